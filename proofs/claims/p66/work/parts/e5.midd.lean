/-! build, by the script -/
section BLD
variable {p : Program} {l : Launch} {e : Env} {rm : Room} {s : State} {m : MethodId} {below : List Frame} {meth : Method} {c : Code} {H : Heap} {locs : List Loc} {cz sl : Nat} {Q : State → Prop} {ls : Array Slot} {D : va_G} {cA : Nat → ClassId} {ad an tt : Nat → Nat} {hr : Nat → Nat → Nat} {h0 : Nat → Nat} {A : Nat → Prop} {b n : Nat} {t : ThlS} {r : Nat → BooS} {Wo : SO}
set_option maxRecDepth 100000 in
set_option maxHeartbeats 4000000 in
theorem b_mid12 {nn ac cv kv zz : Int32} (hl9 : l.stackTraces = false) (B : lB p l s m [.ref b] c meth cL_build 8 (some (.object "TheatreLedger")) D cA ad an tt A) (erm : RBd = rm) (hV : V n t r Wo) (hn : n + 4 ≤ 512) (hcz : cz + 5 ≤ 1000) (hsl : sl + 30 ≤ 9000) (hP : va_P D vwCl ([] ++ (TR cA ad hr h0 t r ++ [])) H) (hD : va_D A ([] ++ (TR cA ad hr h0 t r ++ []))) (hS : va_S A s.heap H locs) (hac : ¬ ac = 0) (hl : lv_has ls 8 [(7, .int nn), (6, .int (iI ((12 : Nat) : Int))), (5, .int ac), (4, .int cv), (3, .int kv), (2, .int zz), (1, .ref (h0 0)), (0, .ref b)]) (kk : ∀ (t : ThlS) (r : Nat → BooS), V (n + 1) t r (bM12 cv ac nn Wo) → ∀ (H : Heap) (locs : List Loc), va_P D vwCl ([] ++ (TR cA ad hr h0 t r ++ [])) H → va_D A ([] ++ (TR cA ad hr h0 t r ++ [])) → va_S A s.heap H locs → ∀ ls : Array Slot, lv_has ls 8 [(7, .int nn), (6, .int (iI ((12 : Nat) : Int))), (5, .int ac), (4, .int cv), (3, .int kv), (2, .int zz), (1, .ref (h0 0)), (0, .ref b)] → W p l e rm s m ([.ref b] : List Value).toArray below meth c H locs (cz + 3) (sl + 18) Q (F0 m 428 ls [])) : W p l e rm s m ([.ref b] : List Value).toArray below meth c H locs cz sl Q (F0 m 153 ls []) := by
  have hx := B.1.1
  have hb := B.1.2.1
  unfold bM12 at kk
  refine lv_iload hx hb dL_build_153 (lv_at hl 1 rfl) ?_
  refine lv_iconst (v := 3) hx hb dL_build_155 (by decide) ?_
  refine lv_icmp_ge (tgt := 183) hx hb dL_build_156 (by decide) (fun _ => ?_) (fun cc => absurd (by decide +kernel) cc)
  refine lv_iload hx hb dL_build_183 (lv_at hl 1 rfl) ?_
  refine lv_iconst (v := 3) hx hb dL_build_185 (by decide) ?_
  refine lv_icmp_eq (tgt := 195) hx hb dL_build_186 (by decide) (fun cc => absurd cc (by decide +kernel)) (fun _ => ?_)
  refine lv_iload hx hb dL_build_189 (lv_at hl 1 rfl) ?_
  refine lv_iconst (v := 4) hx hb dL_build_191 (by decide) ?_
  refine lv_icmp_ne (tgt := 219) hx hb dL_build_192 (by decide) (fun _ => ?_) (fun cc => absurd cc (by decide +kernel))
  refine lv_iload hx hb dL_build_219 (lv_at hl 1 rfl) ?_
  refine lv_iconst (v := 5) hx hb dL_build_221 (by decide) ?_
  refine lv_icmp_eq (tgt := 239) hx hb dL_build_222 (by decide) (fun cc => absurd cc (by decide +kernel)) (fun _ => ?_)
  refine lv_iload hx hb dL_build_225 (lv_at hl 1 rfl) ?_
  refine lv_bipush (v := 6) hx hb dL_build_227 (by decide) ?_
  refine lv_icmp_eq (tgt := 239) hx hb dL_build_229 (by decide) (fun cc => absurd cc (by decide +kernel)) (fun _ => ?_)
  refine lv_iload hx hb dL_build_232 (lv_at hl 1 rfl) ?_
  refine lv_bipush (v := 7) hx hb dL_build_234 (by decide) ?_
  refine lv_icmp_ne (tgt := 257) hx hb dL_build_236 (by decide) (fun _ => ?_) (fun cc => absurd cc (by decide +kernel))
  refine lv_iload hx hb dL_build_257 (lv_at hl 1 rfl) ?_
  refine lv_bipush (v := 8) hx hb dL_build_259 (by decide) ?_
  refine lv_icmp_ne (tgt := 282) hx hb dL_build_261 (by decide) (fun _ => ?_) (fun cc => absurd cc (by decide +kernel))
  refine lv_iload hx hb dL_build_282 (lv_at hl 1 rfl) ?_
  refine lv_bipush (v := 9) hx hb dL_build_284 (by decide) ?_
  refine lv_icmp_ne (tgt := 301) hx hb dL_build_286 (by decide) (fun _ => ?_) (fun cc => absurd cc (by decide +kernel))
  refine lv_iload hx hb dL_build_301 (lv_at hl 1 rfl) ?_
  refine lv_bipush (v := 10) hx hb dL_build_303 (by decide) ?_
  refine lv_icmp_ne (tgt := 333) hx hb dL_build_305 (by decide) (fun _ => ?_) (fun cc => absurd cc (by decide +kernel))
  refine lv_iload hx hb dL_build_333 (lv_at hl 1 rfl) ?_
  refine lv_bipush (v := 11) hx hb dL_build_335 (by decide) ?_
  refine lv_icmp_ne (tgt := 349) hx hb dL_build_337 (by decide) (fun _ => ?_) (fun cc => absurd cc (by decide +kernel))
  refine lv_iload hx hb dL_build_349 (lv_at hl 1 rfl) ?_
  refine lv_bipush (v := 12) hx hb dL_build_351 (by decide) ?_
  refine lv_icmp_eq (tgt := 363) hx hb dL_build_353 (by decide) (fun _ => ?_) (fun cc => absurd (by decide +kernel) cc)
  refine lv_aload_n hx hb dL_build_363 rfl (lv_at hl 6 rfl) ?_
  refine lv_iload hx hb dL_build_364 (lv_at hl 3 rfl) ?_
  refine lv_iconst (v := 2) hx hb dL_build_366 (by decide) ?_
  refine lv_ishr hx hb dL_build_367 ?_
  refine lv_bipush (v := 7) hx hb dL_build_368 (by decide) ?_
  refine lv_iand hx hb dL_build_370 ?_
  refine lv_iload hx hb dL_build_371 (lv_at hl 2 rfl) ?_
  refine lv_irem hx hb dL_build_373 hac ?_
  refine lv_iload hx hb dL_build_374 (lv_at hl 3 rfl) ?_
  refine lv_iconst (v := 5) hx hb dL_build_376 (by decide) ?_
  refine lv_ishr hx hb dL_build_377 ?_
  refine lv_bipush (v := 7) hx hb dL_build_378 (by decide) ?_
  refine lv_iand hx hb dL_build_380 ?_
  refine lv_iload hx hb dL_build_381 (lv_at hl 2 rfl) ?_
  refine lv_irem hx hb dL_build_383 hac ?_
  refine lv_iconst (v := 1) hx hb dL_build_384 (by decide) ?_
  refine lv_iload hx hb dL_build_385 (lv_at hl 0 rfl) ?_
  refine lv_iadd hx hb dL_build_387 ?_
  refine lv_iconst (v := 1) hx hb dL_build_388 (by decide) ?_
  refine lv_iload hx hb dL_build_389 (lv_at hl 3 rfl) ?_
  refine lv_bipush (v := 25) hx hb dL_build_391 (by decide) ?_
  refine lv_ishr hx hb dL_build_393 ?_
  refine lv_iconst (v := 3) hx hb dL_build_394 (by decide) ?_
  refine lv_iand hx hb dL_build_395 ?_
  refine lv_iadd hx hb dL_build_396 ?_
  refine lv_iconst (v := 1) hx hb dL_build_397 (by decide) ?_
  refine lv_iload hx hb dL_build_398 (lv_at hl 3 rfl) ?_
  refine lv_bipush (v := 27) hx hb dL_build_400 (by decide) ?_
  refine lv_ishr hx hb dL_build_402 ?_
  refine lv_iconst (v := 3) hx hb dL_build_403 (by decide) ?_
  refine lv_iand hx hb dL_build_404 ?_
  refine lv_iadd hx hb dL_build_405 ?_
  refine ocLW (F := fun u => u) (mc := 2) (ms := 12) B rfl hP hD hS (l_prompt l hl9 D cA ad an tt hr h0 _ n (((shI cv 2) &&& 7) - ((shI cv 2) &&& 7) / ac * ac) (((shI cv 5) &&& 7) - ((shI cv 5) &&& 7) / ac * ac) (1 + nn) (1 + ((shI cv 25) &&& 3)) (1 + ((shI cv 27) &&& 3)) t r Wo hV (by omega)) qcw_L_prompt qml_L_49 qst_L_prompt qini_L (show xCd yL_prompt 6 = true by decide +kernel) (by rw [← erm]; rfl) hl.1 rfl (lv_room (Nat.le_of_ble_eq_true rfl)) dL_build_406 ⟨by rw [← erm]; show cz + 2 ≤ 1000; omega, by rw [← erm]; show sl + 12 ≤ 9000; omega⟩ (fun u hV9 H locs hP hD hS => ?_)
  refine lv_pop hx hb dL_build_409 rfl ?_
  refine lv_iload hx hb dL_build_410 (lv_at hl 1 rfl) ?_
  refine lv_bipush (v := 14) hx hb dL_build_412 (by decide) ?_
  refine lv_icmp_ne (tgt := 428) hx hb dL_build_414 (by decide) (fun _ => ?_) (fun cc => absurd cc (by decide +kernel))
  refine W.widen (k := cz + 3) (n := sl + 18) (by omega) (by omega) ?_
  exact kk u.1 u.2 (hV9) H locs hP hD hS ls hl
set_option maxRecDepth 100000 in
set_option maxHeartbeats 4000000 in
theorem b_mid13 {nn ac cv kv zz : Int32} (hl9 : l.stackTraces = false) (B : lB p l s m [.ref b] c meth cL_build 8 (some (.object "TheatreLedger")) D cA ad an tt A) (erm : RBd = rm) (hV : V n t r Wo) (hn : n + 4 ≤ 512) (hcz : cz + 5 ≤ 1000) (hsl : sl + 30 ≤ 9000) (hP : va_P D vwCl ([] ++ (TR cA ad hr h0 t r ++ [])) H) (hD : va_D A ([] ++ (TR cA ad hr h0 t r ++ []))) (hS : va_S A s.heap H locs) (hac : ¬ ac = 0) (hl : lv_has ls 8 [(7, .int nn), (6, .int (iI ((13 : Nat) : Int))), (5, .int ac), (4, .int cv), (3, .int kv), (2, .int zz), (1, .ref (h0 0)), (0, .ref b)]) (kk : ∀ (t : ThlS) (r : Nat → BooS), V (n + 1) t r (bM13 cv ac nn Wo) → ∀ (H : Heap) (locs : List Loc), va_P D vwCl ([] ++ (TR cA ad hr h0 t r ++ [])) H → va_D A ([] ++ (TR cA ad hr h0 t r ++ [])) → va_S A s.heap H locs → ∀ ls : Array Slot, lv_has ls 8 [(7, .int nn), (6, .int (iI ((13 : Nat) : Int))), (5, .int ac), (4, .int cv), (3, .int kv), (2, .int zz), (1, .ref (h0 0)), (0, .ref b)] → W p l e rm s m ([.ref b] : List Value).toArray below meth c H locs (cz + 3) (sl + 18) Q (F0 m 428 ls [])) : W p l e rm s m ([.ref b] : List Value).toArray below meth c H locs cz sl Q (F0 m 153 ls []) := by
  have hx := B.1.1
  have hb := B.1.2.1
  unfold bM13 at kk
  refine lv_iload hx hb dL_build_153 (lv_at hl 1 rfl) ?_
  refine lv_iconst (v := 3) hx hb dL_build_155 (by decide) ?_
  refine lv_icmp_ge (tgt := 183) hx hb dL_build_156 (by decide) (fun _ => ?_) (fun cc => absurd (by decide +kernel) cc)
  refine lv_iload hx hb dL_build_183 (lv_at hl 1 rfl) ?_
  refine lv_iconst (v := 3) hx hb dL_build_185 (by decide) ?_
  refine lv_icmp_eq (tgt := 195) hx hb dL_build_186 (by decide) (fun cc => absurd cc (by decide +kernel)) (fun _ => ?_)
  refine lv_iload hx hb dL_build_189 (lv_at hl 1 rfl) ?_
  refine lv_iconst (v := 4) hx hb dL_build_191 (by decide) ?_
  refine lv_icmp_ne (tgt := 219) hx hb dL_build_192 (by decide) (fun _ => ?_) (fun cc => absurd cc (by decide +kernel))
  refine lv_iload hx hb dL_build_219 (lv_at hl 1 rfl) ?_
  refine lv_iconst (v := 5) hx hb dL_build_221 (by decide) ?_
  refine lv_icmp_eq (tgt := 239) hx hb dL_build_222 (by decide) (fun cc => absurd cc (by decide +kernel)) (fun _ => ?_)
  refine lv_iload hx hb dL_build_225 (lv_at hl 1 rfl) ?_
  refine lv_bipush (v := 6) hx hb dL_build_227 (by decide) ?_
  refine lv_icmp_eq (tgt := 239) hx hb dL_build_229 (by decide) (fun cc => absurd cc (by decide +kernel)) (fun _ => ?_)
  refine lv_iload hx hb dL_build_232 (lv_at hl 1 rfl) ?_
  refine lv_bipush (v := 7) hx hb dL_build_234 (by decide) ?_
  refine lv_icmp_ne (tgt := 257) hx hb dL_build_236 (by decide) (fun _ => ?_) (fun cc => absurd cc (by decide +kernel))
  refine lv_iload hx hb dL_build_257 (lv_at hl 1 rfl) ?_
  refine lv_bipush (v := 8) hx hb dL_build_259 (by decide) ?_
  refine lv_icmp_ne (tgt := 282) hx hb dL_build_261 (by decide) (fun _ => ?_) (fun cc => absurd cc (by decide +kernel))
  refine lv_iload hx hb dL_build_282 (lv_at hl 1 rfl) ?_
  refine lv_bipush (v := 9) hx hb dL_build_284 (by decide) ?_
  refine lv_icmp_ne (tgt := 301) hx hb dL_build_286 (by decide) (fun _ => ?_) (fun cc => absurd cc (by decide +kernel))
  refine lv_iload hx hb dL_build_301 (lv_at hl 1 rfl) ?_
  refine lv_bipush (v := 10) hx hb dL_build_303 (by decide) ?_
  refine lv_icmp_ne (tgt := 333) hx hb dL_build_305 (by decide) (fun _ => ?_) (fun cc => absurd cc (by decide +kernel))
  refine lv_iload hx hb dL_build_333 (lv_at hl 1 rfl) ?_
  refine lv_bipush (v := 11) hx hb dL_build_335 (by decide) ?_
  refine lv_icmp_ne (tgt := 349) hx hb dL_build_337 (by decide) (fun _ => ?_) (fun cc => absurd cc (by decide +kernel))
  refine lv_iload hx hb dL_build_349 (lv_at hl 1 rfl) ?_
  refine lv_bipush (v := 12) hx hb dL_build_351 (by decide) ?_
  refine lv_icmp_eq (tgt := 363) hx hb dL_build_353 (by decide) (fun cc => absurd cc (by decide +kernel)) (fun _ => ?_)
  refine lv_iload hx hb dL_build_356 (lv_at hl 1 rfl) ?_
  refine lv_bipush (v := 13) hx hb dL_build_358 (by decide) ?_
  refine lv_icmp_ne (tgt := 410) hx hb dL_build_360 (by decide) (fun cc => absurd (by decide +kernel) cc) (fun _ => ?_)
  refine lv_aload_n hx hb dL_build_363 rfl (lv_at hl 6 rfl) ?_
  refine lv_iload hx hb dL_build_364 (lv_at hl 3 rfl) ?_
  refine lv_iconst (v := 2) hx hb dL_build_366 (by decide) ?_
  refine lv_ishr hx hb dL_build_367 ?_
  refine lv_bipush (v := 7) hx hb dL_build_368 (by decide) ?_
  refine lv_iand hx hb dL_build_370 ?_
  refine lv_iload hx hb dL_build_371 (lv_at hl 2 rfl) ?_
  refine lv_irem hx hb dL_build_373 hac ?_
  refine lv_iload hx hb dL_build_374 (lv_at hl 3 rfl) ?_
  refine lv_iconst (v := 5) hx hb dL_build_376 (by decide) ?_
  refine lv_ishr hx hb dL_build_377 ?_
  refine lv_bipush (v := 7) hx hb dL_build_378 (by decide) ?_
  refine lv_iand hx hb dL_build_380 ?_
  refine lv_iload hx hb dL_build_381 (lv_at hl 2 rfl) ?_
  refine lv_irem hx hb dL_build_383 hac ?_
  refine lv_iconst (v := 1) hx hb dL_build_384 (by decide) ?_
  refine lv_iload hx hb dL_build_385 (lv_at hl 0 rfl) ?_
  refine lv_iadd hx hb dL_build_387 ?_
  refine lv_iconst (v := 1) hx hb dL_build_388 (by decide) ?_
  refine lv_iload hx hb dL_build_389 (lv_at hl 3 rfl) ?_
  refine lv_bipush (v := 25) hx hb dL_build_391 (by decide) ?_
  refine lv_ishr hx hb dL_build_393 ?_
  refine lv_iconst (v := 3) hx hb dL_build_394 (by decide) ?_
  refine lv_iand hx hb dL_build_395 ?_
  refine lv_iadd hx hb dL_build_396 ?_
  refine lv_iconst (v := 1) hx hb dL_build_397 (by decide) ?_
  refine lv_iload hx hb dL_build_398 (lv_at hl 3 rfl) ?_
  refine lv_bipush (v := 27) hx hb dL_build_400 (by decide) ?_
  refine lv_ishr hx hb dL_build_402 ?_
  refine lv_iconst (v := 3) hx hb dL_build_403 (by decide) ?_
  refine lv_iand hx hb dL_build_404 ?_
  refine lv_iadd hx hb dL_build_405 ?_
  refine ocLW (F := fun u => u) (mc := 2) (ms := 12) B rfl hP hD hS (l_prompt l hl9 D cA ad an tt hr h0 _ n (((shI cv 2) &&& 7) - ((shI cv 2) &&& 7) / ac * ac) (((shI cv 5) &&& 7) - ((shI cv 5) &&& 7) / ac * ac) (1 + nn) (1 + ((shI cv 25) &&& 3)) (1 + ((shI cv 27) &&& 3)) t r Wo hV (by omega)) qcw_L_prompt qml_L_49 qst_L_prompt qini_L (show xCd yL_prompt 6 = true by decide +kernel) (by rw [← erm]; rfl) hl.1 rfl (lv_room (Nat.le_of_ble_eq_true rfl)) dL_build_406 ⟨by rw [← erm]; show cz + 2 ≤ 1000; omega, by rw [← erm]; show sl + 12 ≤ 9000; omega⟩ (fun u hV9 H locs hP hD hS => ?_)
  refine lv_pop hx hb dL_build_409 rfl ?_
  refine lv_iload hx hb dL_build_410 (lv_at hl 1 rfl) ?_
  refine lv_bipush (v := 14) hx hb dL_build_412 (by decide) ?_
  refine lv_icmp_ne (tgt := 428) hx hb dL_build_414 (by decide) (fun _ => ?_) (fun cc => absurd cc (by decide +kernel))
  refine W.widen (k := cz + 3) (n := sl + 18) (by omega) (by omega) ?_
  exact kk u.1 u.2 (hV9) H locs hP hD hS ls hl
set_option maxRecDepth 100000 in
set_option maxHeartbeats 4000000 in
theorem b_mid14 {nn ac cv kv zz : Int32} (hl9 : l.stackTraces = false) (B : lB p l s m [.ref b] c meth cL_build 8 (some (.object "TheatreLedger")) D cA ad an tt A) (erm : RBd = rm) (hV : V n t r Wo) (hn : n + 4 ≤ 512) (hcz : cz + 5 ≤ 1000) (hsl : sl + 30 ≤ 9000) (hP : va_P D vwCl ([] ++ (TR cA ad hr h0 t r ++ [])) H) (hD : va_D A ([] ++ (TR cA ad hr h0 t r ++ []))) (hS : va_S A s.heap H locs) (hl : lv_has ls 8 [(7, .int nn), (6, .int (iI ((14 : Nat) : Int))), (5, .int ac), (4, .int cv), (3, .int kv), (2, .int zz), (1, .ref (h0 0)), (0, .ref b)]) (kk : ∀ (t : ThlS) (r : Nat → BooS), V (n + 1) t r (bM14 cv ac nn Wo) → ∀ (H : Heap) (locs : List Loc), va_P D vwCl ([] ++ (TR cA ad hr h0 t r ++ [])) H → va_D A ([] ++ (TR cA ad hr h0 t r ++ [])) → va_S A s.heap H locs → ∀ ls : Array Slot, lv_has ls 8 [(7, .int nn), (6, .int (iI ((14 : Nat) : Int))), (5, .int ac), (4, .int cv), (3, .int kv), (2, .int zz), (1, .ref (h0 0)), (0, .ref b)] → W p l e rm s m ([.ref b] : List Value).toArray below meth c H locs (cz + 3) (sl + 18) Q (F0 m 428 ls [])) : W p l e rm s m ([.ref b] : List Value).toArray below meth c H locs cz sl Q (F0 m 153 ls []) := by
  have hx := B.1.1
  have hb := B.1.2.1
  unfold bM14 at kk
  refine lv_iload hx hb dL_build_153 (lv_at hl 1 rfl) ?_
  refine lv_iconst (v := 3) hx hb dL_build_155 (by decide) ?_
  refine lv_icmp_ge (tgt := 183) hx hb dL_build_156 (by decide) (fun _ => ?_) (fun cc => absurd (by decide +kernel) cc)
  refine lv_iload hx hb dL_build_183 (lv_at hl 1 rfl) ?_
  refine lv_iconst (v := 3) hx hb dL_build_185 (by decide) ?_
  refine lv_icmp_eq (tgt := 195) hx hb dL_build_186 (by decide) (fun cc => absurd cc (by decide +kernel)) (fun _ => ?_)
  refine lv_iload hx hb dL_build_189 (lv_at hl 1 rfl) ?_
  refine lv_iconst (v := 4) hx hb dL_build_191 (by decide) ?_
  refine lv_icmp_ne (tgt := 219) hx hb dL_build_192 (by decide) (fun _ => ?_) (fun cc => absurd cc (by decide +kernel))
  refine lv_iload hx hb dL_build_219 (lv_at hl 1 rfl) ?_
  refine lv_iconst (v := 5) hx hb dL_build_221 (by decide) ?_
  refine lv_icmp_eq (tgt := 239) hx hb dL_build_222 (by decide) (fun cc => absurd cc (by decide +kernel)) (fun _ => ?_)
  refine lv_iload hx hb dL_build_225 (lv_at hl 1 rfl) ?_
  refine lv_bipush (v := 6) hx hb dL_build_227 (by decide) ?_
  refine lv_icmp_eq (tgt := 239) hx hb dL_build_229 (by decide) (fun cc => absurd cc (by decide +kernel)) (fun _ => ?_)
  refine lv_iload hx hb dL_build_232 (lv_at hl 1 rfl) ?_
  refine lv_bipush (v := 7) hx hb dL_build_234 (by decide) ?_
  refine lv_icmp_ne (tgt := 257) hx hb dL_build_236 (by decide) (fun _ => ?_) (fun cc => absurd cc (by decide +kernel))
  refine lv_iload hx hb dL_build_257 (lv_at hl 1 rfl) ?_
  refine lv_bipush (v := 8) hx hb dL_build_259 (by decide) ?_
  refine lv_icmp_ne (tgt := 282) hx hb dL_build_261 (by decide) (fun _ => ?_) (fun cc => absurd cc (by decide +kernel))
  refine lv_iload hx hb dL_build_282 (lv_at hl 1 rfl) ?_
  refine lv_bipush (v := 9) hx hb dL_build_284 (by decide) ?_
  refine lv_icmp_ne (tgt := 301) hx hb dL_build_286 (by decide) (fun _ => ?_) (fun cc => absurd cc (by decide +kernel))
  refine lv_iload hx hb dL_build_301 (lv_at hl 1 rfl) ?_
  refine lv_bipush (v := 10) hx hb dL_build_303 (by decide) ?_
  refine lv_icmp_ne (tgt := 333) hx hb dL_build_305 (by decide) (fun _ => ?_) (fun cc => absurd cc (by decide +kernel))
  refine lv_iload hx hb dL_build_333 (lv_at hl 1 rfl) ?_
  refine lv_bipush (v := 11) hx hb dL_build_335 (by decide) ?_
  refine lv_icmp_ne (tgt := 349) hx hb dL_build_337 (by decide) (fun _ => ?_) (fun cc => absurd cc (by decide +kernel))
  refine lv_iload hx hb dL_build_349 (lv_at hl 1 rfl) ?_
  refine lv_bipush (v := 12) hx hb dL_build_351 (by decide) ?_
  refine lv_icmp_eq (tgt := 363) hx hb dL_build_353 (by decide) (fun cc => absurd cc (by decide +kernel)) (fun _ => ?_)
  refine lv_iload hx hb dL_build_356 (lv_at hl 1 rfl) ?_
  refine lv_bipush (v := 13) hx hb dL_build_358 (by decide) ?_
  refine lv_icmp_ne (tgt := 410) hx hb dL_build_360 (by decide) (fun _ => ?_) (fun cc => absurd cc (by decide +kernel))
  refine lv_iload hx hb dL_build_410 (lv_at hl 1 rfl) ?_
  refine lv_bipush (v := 14) hx hb dL_build_412 (by decide) ?_
  refine lv_icmp_ne (tgt := 428) hx hb dL_build_414 (by decide) (fun cc => absurd (by decide +kernel) cc) (fun _ => ?_)
  refine lv_aload_n hx hb dL_build_417 rfl (lv_at hl 6 rfl) ?_
  refine lv_iconst (v := 5) hx hb dL_build_418 (by decide) ?_
  refine lv_iload hx hb dL_build_419 (lv_at hl 0 rfl) ?_
  refine lv_iconst (v := 3) hx hb dL_build_421 (by decide) ?_
  refine lv_iand hx hb dL_build_422 ?_
  refine lv_iconst (v := 0) hx hb dL_build_423 (by decide) ?_
  refine ocLW (F := fun u => u) (mc := 1) (ms := 6) B rfl hP hD hS (l_act5 l hl9 D cA ad an tt hr h0 _ n (nn &&& 3) 0 t r Wo hV (by omega)) qcw_L_act qml_L_33 qst_L_act qini_L (show xCd yL_act 4 = true by decide +kernel) (by rw [← erm]; rfl) hl.1 rfl (lv_room (Nat.le_of_ble_eq_true rfl)) dL_build_424 ⟨by rw [← erm]; show cz + 1 ≤ 1000; omega, by rw [← erm]; show sl + 6 ≤ 9000; omega⟩ (fun u hV9 H locs hP hD hS => ?_)
  refine lv_pop hx hb dL_build_427 rfl ?_
  refine W.widen (k := cz + 3) (n := sl + 18) (by omega) (by omega) ?_
  exact kk u.1 u.2 (hV9) H locs hP hD hS ls hl
set_option maxRecDepth 100000 in
set_option maxHeartbeats 4000000 in
theorem b_mid15 {nn ac cv kv zz : Int32} (hl9 : l.stackTraces = false) (B : lB p l s m [.ref b] c meth cL_build 8 (some (.object "TheatreLedger")) D cA ad an tt A) (erm : RBd = rm) (hV : V n t r Wo) (hn : n + 4 ≤ 512) (hcz : cz + 5 ≤ 1000) (hsl : sl + 30 ≤ 9000) (hP : va_P D vwCl ([] ++ (TR cA ad hr h0 t r ++ [])) H) (hD : va_D A ([] ++ (TR cA ad hr h0 t r ++ []))) (hS : va_S A s.heap H locs) (hl : lv_has ls 8 [(7, .int nn), (6, .int (iI ((15 : Nat) : Int))), (5, .int ac), (4, .int cv), (3, .int kv), (2, .int zz), (1, .ref (h0 0)), (0, .ref b)]) (kk : ∀ (t : ThlS) (r : Nat → BooS), V (n + 1) t r (bM15 cv ac nn Wo) → ∀ (H : Heap) (locs : List Loc), va_P D vwCl ([] ++ (TR cA ad hr h0 t r ++ [])) H → va_D A ([] ++ (TR cA ad hr h0 t r ++ [])) → va_S A s.heap H locs → ∀ ls : Array Slot, lv_has ls 8 [(7, .int nn), (6, .int (iI ((15 : Nat) : Int))), (5, .int ac), (4, .int cv), (3, .int kv), (2, .int zz), (1, .ref (h0 0)), (0, .ref b)] → W p l e rm s m ([.ref b] : List Value).toArray below meth c H locs (cz + 3) (sl + 18) Q (F0 m 428 ls [])) : W p l e rm s m ([.ref b] : List Value).toArray below meth c H locs cz sl Q (F0 m 153 ls []) := by
  have hx := B.1.1
  have hb := B.1.2.1
  unfold bM15 at kk
  refine lv_iload hx hb dL_build_153 (lv_at hl 1 rfl) ?_
  refine lv_iconst (v := 3) hx hb dL_build_155 (by decide) ?_
  refine lv_icmp_ge (tgt := 183) hx hb dL_build_156 (by decide) (fun _ => ?_) (fun cc => absurd (by decide +kernel) cc)
  refine lv_iload hx hb dL_build_183 (lv_at hl 1 rfl) ?_
  refine lv_iconst (v := 3) hx hb dL_build_185 (by decide) ?_
  refine lv_icmp_eq (tgt := 195) hx hb dL_build_186 (by decide) (fun cc => absurd cc (by decide +kernel)) (fun _ => ?_)
  refine lv_iload hx hb dL_build_189 (lv_at hl 1 rfl) ?_
  refine lv_iconst (v := 4) hx hb dL_build_191 (by decide) ?_
  refine lv_icmp_ne (tgt := 219) hx hb dL_build_192 (by decide) (fun _ => ?_) (fun cc => absurd cc (by decide +kernel))
  refine lv_iload hx hb dL_build_219 (lv_at hl 1 rfl) ?_
  refine lv_iconst (v := 5) hx hb dL_build_221 (by decide) ?_
  refine lv_icmp_eq (tgt := 239) hx hb dL_build_222 (by decide) (fun cc => absurd cc (by decide +kernel)) (fun _ => ?_)
  refine lv_iload hx hb dL_build_225 (lv_at hl 1 rfl) ?_
  refine lv_bipush (v := 6) hx hb dL_build_227 (by decide) ?_
  refine lv_icmp_eq (tgt := 239) hx hb dL_build_229 (by decide) (fun cc => absurd cc (by decide +kernel)) (fun _ => ?_)
  refine lv_iload hx hb dL_build_232 (lv_at hl 1 rfl) ?_
  refine lv_bipush (v := 7) hx hb dL_build_234 (by decide) ?_
  refine lv_icmp_ne (tgt := 257) hx hb dL_build_236 (by decide) (fun _ => ?_) (fun cc => absurd cc (by decide +kernel))
  refine lv_iload hx hb dL_build_257 (lv_at hl 1 rfl) ?_
  refine lv_bipush (v := 8) hx hb dL_build_259 (by decide) ?_
  refine lv_icmp_ne (tgt := 282) hx hb dL_build_261 (by decide) (fun _ => ?_) (fun cc => absurd cc (by decide +kernel))
  refine lv_iload hx hb dL_build_282 (lv_at hl 1 rfl) ?_
  refine lv_bipush (v := 9) hx hb dL_build_284 (by decide) ?_
  refine lv_icmp_ne (tgt := 301) hx hb dL_build_286 (by decide) (fun _ => ?_) (fun cc => absurd cc (by decide +kernel))
  refine lv_iload hx hb dL_build_301 (lv_at hl 1 rfl) ?_
  refine lv_bipush (v := 10) hx hb dL_build_303 (by decide) ?_
  refine lv_icmp_ne (tgt := 333) hx hb dL_build_305 (by decide) (fun _ => ?_) (fun cc => absurd cc (by decide +kernel))
  refine lv_iload hx hb dL_build_333 (lv_at hl 1 rfl) ?_
  refine lv_bipush (v := 11) hx hb dL_build_335 (by decide) ?_
  refine lv_icmp_ne (tgt := 349) hx hb dL_build_337 (by decide) (fun _ => ?_) (fun cc => absurd cc (by decide +kernel))
  refine lv_iload hx hb dL_build_349 (lv_at hl 1 rfl) ?_
  refine lv_bipush (v := 12) hx hb dL_build_351 (by decide) ?_
  refine lv_icmp_eq (tgt := 363) hx hb dL_build_353 (by decide) (fun cc => absurd cc (by decide +kernel)) (fun _ => ?_)
  refine lv_iload hx hb dL_build_356 (lv_at hl 1 rfl) ?_
  refine lv_bipush (v := 13) hx hb dL_build_358 (by decide) ?_
  refine lv_icmp_ne (tgt := 410) hx hb dL_build_360 (by decide) (fun _ => ?_) (fun cc => absurd cc (by decide +kernel))
  refine lv_iload hx hb dL_build_410 (lv_at hl 1 rfl) ?_
  refine lv_bipush (v := 14) hx hb dL_build_412 (by decide) ?_
  refine lv_icmp_ne (tgt := 428) hx hb dL_build_414 (by decide) (fun _ => ?_) (fun cc => absurd cc (by decide +kernel))
  refine W.widen (k := cz + 3) (n := sl + 18) (by omega) (by omega) ?_
  exact kk t r (hV.more (Nat.le_succ n)) H locs hP hD hS ls hl
end BLD
