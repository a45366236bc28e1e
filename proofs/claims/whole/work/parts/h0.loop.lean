/-! ===== the law's loop ===== -/
theorem fin_step {P : Nat → Prop} {n : Nat} (h : ∀ j, j < n → P j) (hn : P n) : ∀ j, j < n + 1 → P j := fun j hj => by
  by_cases e : j = n
  · subst e; exact hn
  · exact h j (by omega)
theorem and63_all : ∀ x : Int32, ∃ j : Nat, j < 64 ∧ x &&& 63 = iI (j : Int) := by
  intro x
  refine ⟨(x.toBitVec &&& 63#32).toNat, ?_, ?_⟩
  · rw [BitVec.toNat_and]
    exact Nat.lt_of_le_of_lt Nat.and_le_right (by decide)
  · show x &&& 63 = Int32.ofInt ((x.toBitVec &&& 63#32).toNat : Int)
    rw [Int32.ofInt_eq_ofNat]
    refine Int32.toBitVec.inj ?_
    refine BitVec.eq_of_toNat_eq ?_
    show (x.toBitVec &&& 63#32).toNat = (BitVec.ofNat 32 (x.toBitVec &&& 63#32).toNat).toNat
    rw [BitVec.toNat_ofNat]
    exact (Nat.mod_eq_of_lt (x.toBitVec &&& 63#32).isLt).symm
theorem sIx0 {i L : Nat} (hi : i + 6 ≤ L) (hL : L ≤ 3072) : vp_in (iI (i : Int)) L ∧ (iI (i : Int)).toNatClampNeg = i := by
  have h1 := i_int (z := (i : Int)) (by omega) (by omega)
  refine ⟨vp_in_iff.mpr ⟨by rw [h1]; omega, by rw [h1]; omega⟩, ?_⟩
  show (iI (i : Int)).toInt.toNat = i
  rw [h1]
  omega
section LOOP
variable {p : Program} {l : Launch} {e : Env} {R : Room} {s : State} {m : MethodId} {args : Array Value} {below : List Frame} {meth : Method} {c : Code} {Q : State → Prop}
variable {D : va_G} {cA : Nat → ClassId} {ad : Nat → Nat} {A : Nat → Prop} {b L : Nat} {xs : Nat → Int32} {hm : Nat → Nat} {hr : Nat → Nat → Nat} {h0 : Nat → Nat} {o od : Nat}
set_option maxRecDepth 100000 in
set_option maxHeartbeats 4000000 in
theorem law_switch {cells slots i n : Nat} {f : Nat → Int64} {g : Nat → UInt64} {s0 : ThlS} {s1 : Nat → BooS} {sm : MS} {H : Heap} {locs : List Loc} {ls : Array Slot} (C : LC p l R s m args c D cA ad A b L xs) (hi : i + 6 ≤ L) (hI : IV n s0 s1 sm) (hn : n + 1 ≤ 512) (hcl : cells + 3 ≤ 603072) (hsl : slots + 18 ≤ 7198826) (hP : va_P D vwCl (LW cA ad hm hr h0 o od f g sm s0 s1) H) (hD : va_D A (LW cA ad hm hr h0 o od f g sm s0 s1)) (hS : va_S A s.heap H locs) (hl : lv_has ls 9 [(5, .int (iI (i : Int))), (4, .ref od), (3, .ref o), (2, .ref (hm 0)), (1, .ref (h0 0)), (0, .ref b)])
    (kk : LK p l e R s m args below meth c cells slots Q D cA ad A b hm hr h0 o od i n) : ∀ j : Nat, j < 64 → W p l e R s m args below meth c H locs cells slots Q (F0 m 45 ls [.int (iI (j : Int))]) := by
  have hN : 2000 ≤ 2000 := Nat.le_refl _
  have hx := C.1.1
  have hb := C.1.2.1
  have c0 : ∀ j : Nat, j < 0 → W p l e R s m args below meth c H locs cells slots Q (F0 m 45 ls [.int (iI (j : Int))]) := fun j hj => absurd hj (Nat.not_lt_zero _)
  have c1 := fin_step c0 (lv_tableIn (off := 267) (tgt := 312) hx hb dL_law_45 (by decide +kernel) (by decide +kernel) (by decide +kernel) (by decide) (v_open C hN hi hI hn hcl hsl hP hD hS hl kk))
  have c2 := fin_step c1 (lv_tableIn (off := 325) (tgt := 370) hx hb dL_law_45 (by decide +kernel) (by decide +kernel) (by decide +kernel) (by decide) (v_openBelow C hN hi hI hn hcl hsl hP hD hS hl kk))
  have c3 := fin_step c2 (lv_tableIn (off := 381) (tgt := 426) hx hb dL_law_45 (by decide +kernel) (by decide +kernel) (by decide +kernel) (by decide) (v_post C hN hi hI hn hcl hsl hP hD hS hl kk))
  have c4 := fin_step c3 (lv_tableIn (off := 461) (tgt := 506) hx hb dL_law_45 (by decide +kernel) (by decide +kernel) (by decide +kernel) (by decide) (v_reverse C hN hi hI hn hcl hsl hP hD hS hl kk))
  have c5 := fin_step c4 (lv_tableIn (off := 517) (tgt := 562) hx hb dL_law_45 (by decide +kernel) (by decide +kernel) (by decide +kernel) (by decide) (v_prompt C hN hi hI hn hcl hsl hP hD hS hl kk))
  have c6 := fin_step c5 (lv_tableIn (off := 621) (tgt := 666) hx hb dL_law_45 (by decide +kernel) (by decide +kernel) (by decide +kernel) (by decide) (v_cancelPrompt C hN hi hI hn hcl hsl hP hD hS hl kk))
  have c7 := fin_step c6 (lv_tableIn (off := 677) (tgt := 722) hx hb dL_law_45 (by decide +kernel) (by decide +kernel) (by decide +kernel) (by decide) (v_passHours C hN hi hI hn hcl hsl hP hD hS hl kk))
  have c8 := fin_step c7 (lv_tableIn (off := 733) (tgt := 778) hx hb dL_law_45 (by decide +kernel) (by decide +kernel) (by decide +kernel) (by decide) (v_buy C hN hi hI hn hcl hsl hP hD hS hl kk))
  have c9 := fin_step c8 (lv_tableIn (off := 801) (tgt := 846) hx hb dL_law_45 (by decide +kernel) (by decide +kernel) (by decide +kernel) (by decide) (v_sell C hN hi hI hn hcl hsl hP hD hS hl kk))
  have c10 := fin_step c9 (lv_tableIn (off := 869) (tgt := 914) hx hb dL_law_45 (by decide +kernel) (by decide +kernel) (by decide +kernel) (by decide) (v_bill C hN hi hI hn hcl hsl hP hD hS hl kk))
  have c11 := fin_step c10 (lv_tableIn (off := 925) (tgt := 970) hx hb dL_law_45 (by decide +kernel) (by decide +kernel) (by decide +kernel) (by decide) (v_pay C hN hi hI hn hcl hsl hP hD hS hl kk))
  have c12 := fin_step c11 (lv_tableIn (off := 981) (tgt := 1026) hx hb dL_law_45 (by decide +kernel) (by decide +kernel) (by decide +kernel) (by decide) (v_curtain C hN hi hI hn hcl hsl hP hD hS hl kk))
  have c13 := fin_step c12 (lv_tableIn (off := 994) (tgt := 1039) hx hb dL_law_45 (by decide +kernel) (by decide +kernel) (by decide +kernel) (by decide) (v_hour C hN hi hI hn hcl hsl hP hD hS hl kk))
  have c14 := fin_step c13 (lv_tableIn (off := 1007) (tgt := 1052) hx hb dL_law_45 (by decide +kernel) (by decide +kernel) (by decide +kernel) (by decide) (v_accountCount C hN hi hI hn hcl hsl hP hD hS hl kk))
  have c15 := fin_step c14 (lv_tableIn (off := 1020) (tgt := 1065) hx hb dL_law_45 (by decide +kernel) (by decide +kernel) (by decide +kernel) (by decide) (v_kind C hN hi hI hn hcl hsl hP hD hS hl kk))
  have c16 := fin_step c15 (lv_tableIn (off := 1076) (tgt := 1121) hx hb dL_law_45 (by decide +kernel) (by decide +kernel) (by decide +kernel) (by decide) (v_parent C hN hi hI hn hcl hsl hP hD hS hl kk))
  have c17 := fin_step c16 (lv_tableIn (off := 1132) (tgt := 1177) hx hb dL_law_45 (by decide +kernel) (by decide +kernel) (by decide +kernel) (by decide) (v_debits C hN hi hI hn hcl hsl hP hD hS hl kk))
  have c18 := fin_step c17 (lv_tableIn (off := 1187) (tgt := 1232) hx hb dL_law_45 (by decide +kernel) (by decide +kernel) (by decide +kernel) (by decide) (v_credits C hN hi hI hn hcl hsl hP hD hS hl kk))
  have c19 := fin_step c18 (lv_tableIn (off := 1242) (tgt := 1287) hx hb dL_law_45 (by decide +kernel) (by decide +kernel) (by decide +kernel) (by decide) (v_balance C hN hi hI hn hcl hsl hP hD hS hl kk))
  have c20 := fin_step c19 (lv_tableIn (off := 1297) (tgt := 1342) hx hb dL_law_45 (by decide +kernel) (by decide +kernel) (by decide +kernel) (by decide) (v_treeBalance C hN hi hI hn hcl hsl hP hD hS hl kk))
  have c21 := fin_step c20 (lv_tableIn (off := 1352) (tgt := 1397) hx hb dL_law_45 (by decide +kernel) (by decide +kernel) (by decide +kernel) (by decide) (v_treeBalanceByParents C hN hi hI hn hcl hsl hP hD hS hl kk))
  have c22 := fin_step c21 (lv_tableIn (off := 1407) (tgt := 1452) hx hb dL_law_45 (by decide +kernel) (by decide +kernel) (by decide +kernel) (by decide) (v_treeSize C hN hi hI hn hcl hsl hP hD hS hl kk))
  have c23 := fin_step c22 (lv_tableIn (off := 1463) (tgt := 1508) hx hb dL_law_45 (by decide +kernel) (by decide +kernel) (by decide +kernel) (by decide) (v_sumOfDebits C hN hi hI hn hcl hsl hP hD hS hl kk))
  have c24 := fin_step c23 (lv_tableIn (off := 1477) (tgt := 1522) hx hb dL_law_45 (by decide +kernel) (by decide +kernel) (by decide +kernel) (by decide) (v_sumOfCredits C hN hi hI hn hcl hsl hP hD hS hl kk))
  have c25 := fin_step c24 (lv_tableIn (off := 1491) (tgt := 1536) hx hb dL_law_45 (by decide +kernel) (by decide +kernel) (by decide +kernel) (by decide) (v_profit C hN hi hI hn hcl hsl hP hD hS hl kk))
  have c26 := fin_step c25 (lv_tableIn (off := 1505) (tgt := 1550) hx hb dL_law_45 (by decide +kernel) (by decide +kernel) (by decide +kernel) (by decide) (v_entryCount C hN hi hI hn hcl hsl hP hD hS hl kk))
  have c27 := fin_step c26 (lv_tableIn (off := 1518) (tgt := 1563) hx hb dL_law_45 (by decide +kernel) (by decide +kernel) (by decide +kernel) (by decide) (v_entryAt C hN hi hI hn hcl hsl hP hD hS hl kk))
  have c28 := fin_step c27 (lv_tableIn (off := 1574) (tgt := 1619) hx hb dL_law_45 (by decide +kernel) (by decide +kernel) (by decide +kernel) (by decide) (v_debitOf C hN hi hI hn hcl hsl hP hD hS hl kk))
  have c29 := fin_step c28 (lv_tableIn (off := 1630) (tgt := 1675) hx hb dL_law_45 (by decide +kernel) (by decide +kernel) (by decide +kernel) (by decide) (v_creditOf C hN hi hI hn hcl hsl hP hD hS hl kk))
  have c30 := fin_step c29 (lv_tableIn (off := 1686) (tgt := 1731) hx hb dL_law_45 (by decide +kernel) (by decide +kernel) (by decide +kernel) (by decide) (v_amountOf C hN hi hI hn hcl hsl hP hD hS hl kk))
  have c31 := fin_step c30 (lv_tableIn (off := 1741) (tgt := 1786) hx hb dL_law_45 (by decide +kernel) (by decide +kernel) (by decide +kernel) (by decide) (v_hourOf C hN hi hI hn hcl hsl hP hD hS hl kk))
  have c32 := fin_step c31 (lv_tableIn (off := 1797) (tgt := 1842) hx hb dL_law_45 (by decide +kernel) (by decide +kernel) (by decide +kernel) (by decide) (v_isReversed C hN hi hI hn hcl hsl hP hD hS hl kk))
  have c33 := fin_step c32 (lv_tableIn (off := 1860) (tgt := 1905) hx hb dL_law_45 (by decide +kernel) (by decide +kernel) (by decide +kernel) (by decide) (v_promptCount C hN hi hI hn hcl hsl hP hD hS hl kk))
  have c34 := fin_step c33 (lv_tableIn (off := 1873) (tgt := 1918) hx hb dL_law_45 (by decide +kernel) (by decide +kernel) (by decide +kernel) (by decide) (v_hoursUntilPrompt C hN hi hI hn hcl hsl hP hD hS hl kk))
  have c35 := fin_step c34 (lv_tableIn (off := 1929) (tgt := 1974) hx hb dL_law_45 (by decide +kernel) (by decide +kernel) (by decide +kernel) (by decide) (v_timesLeft C hN hi hI hn hcl hsl hP hD hS hl kk))
  have c36 := fin_step c35 (lv_tableIn (off := 1985) (tgt := 2030) hx hb dL_law_45 (by decide +kernel) (by decide +kernel) (by decide +kernel) (by decide) (v_cashIn C hN hi hI hn hcl hsl hP hD hS hl kk))
  have c37 := fin_step c36 (lv_tableIn (off := 2040) (tgt := 2085) hx hb dL_law_45 (by decide +kernel) (by decide +kernel) (by decide +kernel) (by decide) (v_costumeCount C hN hi hI hn hcl hsl hP hD hS hl kk))
  have c38 := fin_step c37 (lv_tableIn (off := 2053) (tgt := 2098) hx hb dL_law_45 (by decide +kernel) (by decide +kernel) (by decide +kernel) (by decide) (v_lotCount C hN hi hI hn hcl hsl hP hD hS hl kk))
  have c39 := fin_step c38 (lv_tableIn (off := 2066) (tgt := 2111) hx hb dL_law_45 (by decide +kernel) (by decide +kernel) (by decide +kernel) (by decide) (v_costOf C hN hi hI hn hcl hsl hP hD hS hl kk))
  have c40 := fin_step c39 (lv_tableIn (off := 2122) (tgt := 2167) hx hb dL_law_45 (by decide +kernel) (by decide +kernel) (by decide +kernel) (by decide) (v_costByCostumes C hN hi hI hn hcl hsl hP hD hS hl kk))
  have c41 := fin_step c40 (lv_tableIn (off := 2178) (tgt := 2223) hx hb dL_law_45 (by decide +kernel) (by decide +kernel) (by decide +kernel) (by decide) (v_meanPrice C hN hi hI hn hcl hsl hP hD hS hl kk))
  have c42 := fin_step c41 (lv_tableIn (off := 2243) (tgt := 2288) hx hb dL_law_45 (by decide +kernel) (by decide +kernel) (by decide +kernel) (by decide) (v_billCount C hN hi hI hn hcl hsl hP hD hS hl kk))
  have c43 := fin_step c42 (lv_tableIn (off := 2256) (tgt := 2301) hx hb dL_law_45 (by decide +kernel) (by decide +kernel) (by decide +kernel) (by decide) (v_billAt C hN hi hI hn hcl hsl hP hD hS hl kk))
  have c44 := fin_step c43 (lv_tableIn (off := 2312) (tgt := 2357) hx hb dL_law_45 (by decide +kernel) (by decide +kernel) (by decide +kernel) (by decide) (v_openAmount C hN hi hI hn hcl hsl hP hD hS hl kk))
  have c45 := fin_step c44 (lv_tableIn (off := 2368) (tgt := 2413) hx hb dL_law_45 (by decide +kernel) (by decide +kernel) (by decide +kernel) (by decide) (v_openTotal C hN hi hI hn hcl hsl hP hD hS hl kk))
  have c46 := fin_step c45 (lv_tableIn (off := 2381) (tgt := 2426) hx hb dL_law_45 (by decide +kernel) (by decide +kernel) (by decide +kernel) (by decide) (v_isMatched C hN hi hI hn hcl hsl hP hD hS hl kk))
  have c47 := fin_step c46 (lv_tableIn (off := 2444) (tgt := 2489) hx hb dL_law_45 (by decide +kernel) (by decide +kernel) (by decide +kernel) (by decide) (v_isMatchedBySets C hN hi hI hn hcl hsl hP hD hS hl kk))
  have c48 := fin_step c47 (lv_tableIn (off := 2507) (tgt := 2552) hx hb dL_law_45 (by decide +kernel) (by decide +kernel) (by decide +kernel) (by decide) (v_matchSize C hN hi hI hn hcl hsl hP hD hS hl kk))
  have c49 := fin_step c48 (lv_tableIn (off := 2563) (tgt := 2608) hx hb dL_law_45 (by decide +kernel) (by decide +kernel) (by decide +kernel) (by decide) (v_isInMatch C hN hi hI hn hcl hsl hP hD hS hl kk))
  have c50 := fin_step c49 (lv_tableIn (off := 2638) (tgt := 2683) hx hb dL_law_45 (by decide +kernel) (by decide +kernel) (by decide +kernel) (by decide) (v_accountByBalance C hN hi hI hn hcl hsl hP hD hS hl kk))
  have c51 := fin_step c50 (lv_tableIn (off := 2694) (tgt := 2739) hx hb dL_law_45 (by decide +kernel) (by decide +kernel) (by decide +kernel) (by decide) (v_curtainCount C hN hi hI hn hcl hsl hP hD hS hl kk))
  have c52 := fin_step c51 (lv_tableIn (off := 2707) (tgt := 2752) hx hb dL_law_45 (by decide +kernel) (by decide +kernel) (by decide +kernel) (by decide) (v_claimShare C hN hi hI hn hcl hsl hP hD hS hl kk))
  have c53 := fin_step c52 (lv_tableIn (off := 2773) (tgt := 2818) hx hb dL_law_45 (by decide +kernel) (by decide +kernel) (by decide +kernel) (by decide) (v_isConsistent C hN hi hI hn hcl hsl hP hD hS hl kk))
  have c54 := fin_step c53 (lv_tableIn (off := 2786) (tgt := 2831) hx hb dL_law_45 (by decide +kernel) (by decide +kernel) (by decide +kernel) (by decide) (v_feed C hN hi hI hn hcl hsl hP hD hS hl kk))
  have c55 := fin_step c54 (lv_tableIn (off := 2844) (tgt := 2889) hx hb dL_law_45 (by decide +kernel) (by decide +kernel) (by decide +kernel) (by decide) (v_runCommands C hN hi hI hn hcl hsl hP hD hS hl kk))
  have c56 := fin_step c55 (lv_tableIn (off := 2888) (tgt := 2933) hx hb dL_law_45 (by decide +kernel) (by decide +kernel) (by decide +kernel) (by decide) (v_errorPosition C hN hi hI hn hcl hsl hP hD hS hl kk))
  have c57 := fin_step c56 (lv_tableIn (off := 2932) (tgt := 2977) hx hb dL_law_45 (by decide +kernel) (by decide +kernel) (by decide +kernel) (by decide) (v_failedCommand C hN hi hI hn hcl hsl hP hD hS hl kk))
  have c58 := fin_step c57 (lv_tableIn (off := 2976) (tgt := 3021) hx hb dL_law_45 (by decide +kernel) (by decide +kernel) (by decide +kernel) (by decide) (v_writeEntry C hN hi hI hn hcl hsl hP hD hS hl kk))
  have c59 := fin_step c58 (lv_tableIn (off := 3032) (tgt := 3077) hx hb dL_law_45 (by decide +kernel) (by decide +kernel) (by decide +kernel) (by decide) (v_outputChar C hN hi hI hn hcl hsl hP hD hS hl kk))
  have c60 := fin_step c59 (lv_tableIn (off := 3088) (tgt := 3133) hx hb dL_law_45 (by decide +kernel) (by decide +kernel) (by decide +kernel) (by decide) (v_undoCount C hN hi hI hn hcl hsl hP hD hS hl kk))
  have c61 := fin_step c60 (lv_tableIn (off := 3101) (tgt := 3146) hx hb dL_law_45 (by decide +kernel) (by decide +kernel) (by decide +kernel) (by decide) (v_undo C hN hi hI hn hcl hsl hP hD hS hl kk))
  have c62 := fin_step c61 (lv_tableIn (off := 3145) (tgt := 3190) hx hb dL_law_45 (by decide +kernel) (by decide +kernel) (by decide +kernel) (by decide) (v_save C hN hi hI hn hcl hsl hP hD hS hl kk))
  have c63 := fin_step c62 (lv_tableIn (off := 3158) (tgt := 3203) hx hb dL_law_45 (by decide +kernel) (by decide +kernel) (by decide +kernel) (by decide) (v_restore C hN hi hI hn hcl hsl hP hD hS hl kk))
  have c64 := fin_step c63 (lv_tableOut (tgt := 3247) hx hb dL_law_45 (by decide +kernel) (by decide) (W.widen (k := cells + 3) (n := slots + 18) (by omega) (by omega) (kk f g sm s0 s1 (hI.more (by omega)) H locs hP hD hS ls hl)))
  exact c64
theorem sL_cmp {i L : Nat} (hi : i ≤ 3072) (hL : L ≤ 3072) : (Int32.ofNat L - 6 < iI (i : Int)) = (L < i + 6) := by
  have e : Int32.ofNat L = iI (L : Int) := (Int32.ofInt_eq_ofNat).symm
  rw [e, show (6 : Int32) = iI 6 from rfl, i_sub, i_lt (by omega) (by omega) (by omega) (by omega)]
  apply propext
  omega
theorem sInc6 (i : Nat) : iI (i : Int) + Int32.ofInt 6 = iI ((i + 6 : Nat) : Int) := by
  show iI (i : Int) + iI 6 = _
  rw [i_add]
  rfl
set_option maxRecDepth 100000 in
set_option maxHeartbeats 4000000 in
theorem law_loop (C : LC p l R s m args c D cA ad A b L xs) (hx : p.tables.exec = Jvm.exec) (hb : c.code = cL_law)
    (kx : ∀ (H : Heap) (locs : List Loc) (cells slots : Nat), cells ≤ 603072 → slots ≤ 7198826 → va_S A s.heap H locs → ∀ ls : Array Slot, W p l e R s m args below meth c H locs cells slots Q (F0 m 3253 ls [])) :
    ∀ (k n : Nat), n + k = 512 → ∀ (i cells slots : Nat), i = 6 * n → cells = 300 + 3 * n → slots = 8000 + 18 * n → ∀ (f : Nat → Int64) (g : Nat → UInt64) (s0 : ThlS) (s1 : Nat → BooS) (sm : MS) (H : Heap) (locs : List Loc), IV n s0 s1 sm → va_P D vwCl (LW cA ad hm hr h0 o od f g sm s0 s1) H → va_D A (LW cA ad hm hr h0 o od f g sm s0 s1) → va_S A s.heap H locs → ∀ ls : Array Slot, lv_has ls 9 [(5, .int (iI (i : Int))), (4, .ref od), (3, .ref o), (2, .ref (hm 0)), (1, .ref (h0 0)), (0, .ref b)] → W p l e R s m args below meth c H locs cells slots Q (F0 m 28 ls []) := by
  have hXs := C.2.2.2.2.2.2.2.2.2.1
  have hbl := C.2.2.2.2.2.2.2.2.2.2.1
  have hbA := C.2.2.2.2.2.2.2.2.2.2.2.1
  have hL9 := C.2.2.2.2.2.2.2.2.2.2.2.2
  intro k
  induction k with
  | zero =>
    intro n hn i cells slots hi hc hs f g s0 s1 sm H locs hI hP hD hS ls hl
    refine lv_iload hx hb dL_law_28 (lv_at hl 0 rfl) ?_
    refine lv_aload_n hx hb dL_law_30 rfl (lv_at hl 5 rfl) ?_
    refine va_slen hx hb hXs hbl hbA hS dL_law_31 ?_
    refine lv_bipush (v := 6) hx hb dL_law_32 (by decide) ?_
    refine lv_isub hx hb dL_law_34 ?_
    refine lv_icmp_gt (tgt := 3253) hx hb dL_law_35 (by decide) (fun _ => ?_) (fun c9 => absurd (by rw [sL_cmp (by omega) hL9]; omega) c9)
    exact kx _ _ _ _ (by omega) (by omega) hS _
  | succ k ih =>
    intro n hn i cells slots hi hc hs f g s0 s1 sm H locs hI hP hD hS ls hl
    refine lv_iload hx hb dL_law_28 (lv_at hl 0 rfl) ?_
    refine lv_aload_n hx hb dL_law_30 rfl (lv_at hl 5 rfl) ?_
    refine va_slen hx hb hXs hbl hbA hS dL_law_31 ?_
    refine lv_bipush (v := 6) hx hb dL_law_32 (by decide) ?_
    refine lv_isub hx hb dL_law_34 ?_
    refine lv_icmp_gt (tgt := 3253) hx hb dL_law_35 (by decide) (fun _ => ?_) (fun c9 => ?_)
    · exact kx _ _ _ _ (by omega) (by omega) hS _
    rw [sL_cmp (by omega) hL9] at c9
    have hi6 : i + 6 ≤ L := by omega
    refine lv_aload_n hx hb dL_law_38 rfl (lv_at hl 5 rfl) ?_
    refine lv_iload hx hb dL_law_39 (lv_at hl 0 rfl) ?_
    refine vSld hx hb hXs hbl hbA hS (k := i) (sIx0 hi6 hL9) dL_law_41 ?_
    refine lv_bipush (v := 63) hx hb dL_law_42 (by decide) ?_
    refine lv_iand hx hb dL_law_44 ?_
    obtain ⟨j, hj, ej⟩ := and63_all (xs i)
    rw [ej]
    refine law_switch C hi6 hI (by omega) (by omega) (by omega) hP hD hS hl (fun f g sm s0 s1 hI H locs hP hD hS ls hl => ?_) j hj
    refine lv_iinc (v := iI ((i + 6 : Nat) : Int)) (lv' := [(5, .int (iI ((i + 6 : Nat) : Int))), (4, .ref od), (3, .ref o), (2, .ref (hm 0)), (1, .ref (h0 0)), (0, .ref b)]) hx hb dL_law_3247 hl (k := 0) rfl (sInc6 i) (by decide) rfl (fun ls hl => ?_)
    refine lv_goto (tgt := 28) hx hb dL_law_3250 (by decide) ?_
    exact ih (n + 1) (by omega) (i + 6) _ _ (by omega) (by omega) (by omega) _ _ _ _ _ _ _ hI hP hD hS _ hl
end LOOP
