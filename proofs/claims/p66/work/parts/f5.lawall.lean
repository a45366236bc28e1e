/-! ===== the law's body, whole ===== -/
section LALL
variable {p : Program} {l : Launch} {e : Env} {rm : Room} {s : State} {m : MethodId} {below : List Frame} {meth : Method} {c : Code} {H : Heap} {locs : List Loc} {Q : State → Prop} {ls : Array Slot} {D : va_G} {cA : Nat → ClassId} {ad an tt : Nat → Nat} {A : Nat → Prop} {b L : Nat} {xs : Nat → Int32}
set_option maxRecDepth 100000 in
set_option maxHeartbeats 4000000 in
theorem law_all (hl9 : l.stackTraces = false) (B : lB p l s m [.ref b] c meth cL_law 7 (some .boolean) D cA ad an tt A) (erm : RLw = rm) (hX : va_X b L xs s s.heap) (hbl : b < s.heap.size) (hbA : ¬ A b) (hL : L ≤ 260) (hP : va_P D vwCl ([] : va_W) H) (hD : va_D A ([] : va_W)) (hS : va_S A s.heap H locs) (hl : lv_has ls 7 [(0, .ref b)]) (kx : ∀ (H : Heap) (locs : List Loc), va_S A s.heap H locs → ∀ ls : Array Slot, W p l e rm s m ([.ref b] : List Value).toArray below meth c H locs 621907 7228180 Q (F0 m 1519 ls [.int 1])) : W p l e rm s m ([.ref b] : List Value).toArray below meth c H locs 0 0 Q (F0 m 0 ls []) := by
  refine lx_1 hl9 B erm hX hbl hbA hL hP hD hS hl (fun hr1 hr2 h1 h2 t1 r1 t2 r2 X Y hV1 hX1 hV2 hY H locs hP hD hS ls hl => ?_)
  refine lx_2 hl9 B erm hV1 hX1 hV2 hY hP hD hS hl (fun t1 r1 t2 r2 X hV1 hX1 H locs hP hD hS ls hl => ?_)
  refine lx_3 hl9 B erm hV1 hX1 hP hD hS hl (fun t1 r1 t2 r2 X hV1 hX1 hF H locs hP hD hS ls hl => ?_)
  refine lx_4 hl9 B erm hV1 hX1 hF hP hD hS hl (fun t1 r1 t2 r2 X hV1 hX1 H locs hP hD hS ls hl => ?_)
  refine lx_5 (P9 := TR cA ad hr1 h1 t1 r1 ++ TR cA ad hr2 h2 t2 r2) hl9 B erm hX hbl hbA hL (w12P hP) (w12D hD) hS hl (fun n hn9 hn0 hr h0 t r hV H locs hP hD hS ls hl => ?_)
  have hp9 : (TR cA ad hr1 h1 t1 r1 ++ TR cA ad hr2 h2 t2 r2).length = 572 := by rw [List.length_append, TR_len, TR_len]
  refine lz_0 hn9 hn0 hp9 hl9 B erm hV hP hD hS hl (fun t r hV H locs hP hD hS ls hl => ?_)
  refine lz_1 hn9 hn0 hp9 hl9 B erm hV hP hD hS hl (fun t r hV H locs hP hD hS ls hl => ?_)
  refine lz_2 hn9 hn0 hp9 hl9 B erm hV hP hD hS hl (fun t r hV H locs hP hD hS ls hl => ?_)
  refine lz_3 hn9 hn0 hp9 hl9 B erm hV hP hD hS hl (fun t r hV H locs hP hD hS ls hl => ?_)
  refine lz_4 hn9 hn0 hp9 hl9 B erm hV hP hD hS hl (fun t r hV H locs hP hD hS ls hl => ?_)
  refine lz_5 hn9 hn0 hp9 hl9 B erm hV hP hD hS hl (fun t r hV H locs hP hD hS ls hl => ?_)
  refine lz_6 hn9 hn0 hp9 hl9 B erm hV hP hD hS hl (fun t r hV H locs hP hD hS ls hl => ?_)
  refine lz_7 hn9 hn0 hp9 hl9 B erm hV hP hD hS hl (fun t r hV H locs hP hD hS ls hl => ?_)
  exact lx_6 hl9 B erm hV1 hX1 (wzxP hP) (wzxD hD) hS hl kx
end LALL
