/-! ===== the third object: what it answers, call by call ===== -/
theorem lO_no (W : SO) {g : GO} (h : g.1 ≠ 0) : (lO W g).2.2 = W := by
  unfold lO
  rw [if_neg h]
theorem lg_same2 {x y : Int64} (h : x = y) : lg_cmp x y = 0 := by rw [h]; exact lg_same y

abbrev zA0 : SO := sO0
theorem zr1 {k : Nat} {t : ThlS} {r : Nat → BooS} (hV : V k t r zA0) : ∃ u, fX12_isConsistent 2000 t = some (1, Thls3 t u) := r_isConsistent (N := 2000) (Nat.le_refl _) hV.R hV.w
theorem zf2 : some (iI (aN (gA (oS zA0)) : Int)) = some (6) := by decide +kernel
theorem zr2 {k : Nat} {t : ThlS} {r : Nat → BooS} (hV : V k t r zA0) : fX12_accountCount 2000 t = some (6) := (r_accountCount hV.R hV.w).trans zf2
theorem zf3 : some (if (0 : Int) ≤ 0 ∧ (0 : Int) < aN (gA (oS zA0)) then ((0 : Nat), iL (bal (gA (oS zA0)) (0 : Int).toNat)) else (1, 0)) = some (0, 500) := by decide +kernel
theorem zr3 {k : Nat} {t : ThlS} {r : Nat → BooS} (hV : V k t r zA0) : fX12_balance 2000 0 t = some (0, 500) := (r_balance hV.R hV.w (z := 0) (by omega)).trans zf3
theorem zf4 : some (if (0 : Int) ≤ 3 ∧ (3 : Int) < aN (gA (oS zA0)) then ((0 : Nat), iL (bal (gA (oS zA0)) (3 : Int).toNat)) else (1, 0)) = some (0, 500) := by decide +kernel
theorem zr4 {k : Nat} {t : ThlS} {r : Nat → BooS} (hV : V k t r zA0) : fX12_balance 2000 3 t = some (0, 500) := (r_balance hV.R hV.w (z := 3) (by omega)).trans zf4
theorem zf5 : some (iL (sumN (aD (gA (oS zA0))) (aN (gA (oS zA0))))) = some (500) := by decide +kernel
theorem zr5 {k : Nat} {t : ThlS} {r : Nat → BooS} (hV : V k t r zA0) : fX12_sumOfDebits 2000 t = some (500) := (r_sumOfDebits (Nat.le_refl _) hV.R hV.w).trans zf5
theorem zf6 : some (iI (jK (gJ (oS zA0)) : Int)) = some (0) := by decide +kernel
theorem zr6 {k : Nat} {t : ThlS} {r : Nat → BooS} (hV : V k t r zA0) : fX12_entryCount 2000 t = some (0) := (r_entryCount hV.R hV.w).trans zf6
theorem zf7 : some (if (0 : Int) ≤ 0 ∧ (0 : Int) < aN (gA (oS zA0)) then ((0 : Nat), iI (sTreeSize (gA (oS zA0)) (0 : Int).toNat)) else (1, 0)) = some (0, 1) := by decide +kernel
theorem zr7 {k : Nat} {t : ThlS} {r : Nat → BooS} (hV : V k t r zA0) : fX12_treeSize 2000 0 t = some (0, 1) := (r_treeSize (Nat.le_refl _) hV.R hV.w (z := 0) (by omega)).trans zf7
theorem zf8 : bal (gA (oS zA0)) 0 + bal (gA (oS zA0)) 1 + bal (gA (oS zA0)) 2 ≠ 0 ∧ FP.fdiv (FP.i2f (iI (bal (gA (oS zA0)) 2))) (FP.i2f (iI (bal (gA (oS zA0)) 0 + bal (gA (oS zA0)) 1 + bal (gA (oS zA0)) 2))) = FP.fconst0 := by decide +kernel
theorem zr8 {k : Nat} {t : ThlS} {r : Nat → BooS} (hV : V k t r zA0) : fX12_claimShare 2000 t = some (0, FP.fconst0) := (r_claimShare hV.R hV.w zf8.1).trans (by rw [zf8.2])
theorem zf9 : some (iL (sumN (gainAt (gA (oS zA0))) (aN (gA (oS zA0))))) = some (0) := by decide +kernel
theorem zr9 {k : Nat} {t : ThlS} {r : Nat → BooS} (hV : V k t r zA0) : fX12_profit 2000 t = some (0) := (r_profit (Nat.le_refl _) hV.R hV.w).trans zf9
theorem zf10 : iI (resR (rSize (oS zA0) (5 : Int32).toInt)) = -900005 := by decide +kernel
theorem zf11 : iI (resR (rCost (oS zA0) (1 : Int32).toInt)) = -900003 := by decide +kernel
theorem zf12 : iI (resO (lO zA0 (gRev (oS zA0) (0 : Int32).toInt))) = -900005 ∧ (gRev (oS zA0) (0 : Int32).toInt).1 ≠ 0 := by decide +kernel
def zA1 : SO := (oRun (tW zA0 (txI 15))).2.2
theorem zfrun : (oRun (tW zA0 (txI 15))).1 = 0 ∧ iI (oRun (tW zA0 (txI 15))).2.1 = 7 := by decide +kernel
theorem zrun {k : Nat} {t : ThlS} {r : Nat → BooS} (hV : V k t r (tW zA0 (txI 15))) (hn : k + 12 ≤ 512) : ∃ t' r', fX12_runCommands 2000 t r = some (0, 7, t', r') ∧ V (k + 12) t' r' zA1 := by
  obtain ⟨t', r', q, q2⟩ := V_run hV hn
  exact ⟨t', r', q.trans (by rw [zfrun.1, zfrun.2]), q2⟩
theorem zf13 : some (if (0 : Int) ≤ 0 ∧ (0 : Int) < aN (gA (oS zA1)) then ((0 : Nat), iL (bal (gA (oS zA1)) (0 : Int).toNat)) else (1, 0)) = some (0, 600) := by decide +kernel
theorem zr13 {k : Nat} {t : ThlS} {r : Nat → BooS} (hV : V k t r zA1) : fX12_balance 2000 0 t = some (0, 600) := (r_balance hV.R hV.w (z := 0) (by omega)).trans zf13
theorem zf14 : some (if (0 : Int) ≤ 1 ∧ (1 : Int) < aN (gA (oS zA1)) then ((0 : Nat), iL (bal (gA (oS zA1)) (1 : Int).toNat)) else (1, 0)) = some (0, 60) := by decide +kernel
theorem zr14 {k : Nat} {t : ThlS} {r : Nat → BooS} (hV : V k t r zA1) : fX12_balance 2000 1 t = some (0, 60) := (r_balance hV.R hV.w (z := 1) (by omega)).trans zf14
theorem zf15 : some (if (0 : Int) ≤ 2 ∧ (2 : Int) < aN (gA (oS zA1)) then ((0 : Nat), iL (bal (gA (oS zA1)) (2 : Int).toNat)) else (1, 0)) = some (0, 50) := by decide +kernel
theorem zr15 {k : Nat} {t : ThlS} {r : Nat → BooS} (hV : V k t r zA1) : fX12_balance 2000 2 t = some (0, 50) := (r_balance hV.R hV.w (z := 2) (by omega)).trans zf15
theorem zf16 : some (if (0 : Int) ≤ 4 ∧ (4 : Int) < aN (gA (oS zA1)) then ((0 : Nat), iL (bal (gA (oS zA1)) (4 : Int).toNat)) else (1, 0)) = some (0, 340) := by decide +kernel
theorem zr16 {k : Nat} {t : ThlS} {r : Nat → BooS} (hV : V k t r zA1) : fX12_balance 2000 4 t = some (0, 340) := (r_balance hV.R hV.w (z := 4) (by omega)).trans zf16
theorem zf17 : some (if (0 : Int) ≤ 5 ∧ (5 : Int) < aN (gA (oS zA1)) then ((0 : Nat), iL (bal (gA (oS zA1)) (5 : Int).toNat)) else (1, 0)) = some (0, 130) := by decide +kernel
theorem zr17 {k : Nat} {t : ThlS} {r : Nat → BooS} (hV : V k t r zA1) : fX12_balance 2000 5 t = some (0, 130) := (r_balance hV.R hV.w (z := 5) (by omega)).trans zf17
theorem zf18 : some (iL (sumN (gainAt (gA (oS zA1))) (aN (gA (oS zA1))))) = some (210) := by decide +kernel
theorem zr18 {k : Nat} {t : ThlS} {r : Nat → BooS} (hV : V k t r zA1) : fX12_profit 2000 t = some (210) := (r_profit (Nat.le_refl _) hV.R hV.w).trans zf18
theorem zf19 : some (iL (sumN (aD (gA (oS zA1))) (aN (gA (oS zA1))))) = some (1210) := by decide +kernel
theorem zr19 {k : Nat} {t : ThlS} {r : Nat → BooS} (hV : V k t r zA1) : fX12_sumOfDebits 2000 t = some (1210) := (r_sumOfDebits (Nat.le_refl _) hV.R hV.w).trans zf19
theorem zf20 : some (iL (sumN (aC (gA (oS zA1))) (aN (gA (oS zA1))))) = some (1210) := by decide +kernel
theorem zr20 {k : Nat} {t : ThlS} {r : Nat → BooS} (hV : V k t r zA1) : fX12_sumOfCredits 2000 t = some (1210) := (r_sumOfCredits (Nat.le_refl _) hV.R hV.w).trans zf20
theorem zf21 : some (iI (jK (gJ (oS zA1)) : Int)) = some (8) := by decide +kernel
theorem zr21 {k : Nat} {t : ThlS} {r : Nat → BooS} (hV : V k t r zA1) : fX12_entryCount 2000 t = some (8) := (r_entryCount hV.R hV.w).trans zf21
theorem zf22 : some (if (jN (gJ (oS zA1)) : Int) - jK (gJ (oS zA1)) ≤ 2 ∧ (2 : Int) < jN (gJ (oS zA1)) then ((0 : Nat), iL (jA (gJ (oS zA1)) (2 : Int).toNat)) else (2, 0)) = some (0, 240) := by decide +kernel
theorem zr22 {k : Nat} {t : ThlS} {r : Nat → BooS} (hV : V k t r zA1) : fX12_amountOf 2000 2 t = some (0, 240) := (r_amountOf hV.R hV.w (z := 2) (by omega)).trans zf22
theorem zf23 : some (if (jN (gJ (oS zA1)) : Int) - jK (gJ (oS zA1)) ≤ 3 ∧ (3 : Int) < jN (gJ (oS zA1)) then ((0 : Nat), iL (jA (gJ (oS zA1)) (3 : Int).toNat)) else (2, 0)) = some (0, 130) := by decide +kernel
theorem zr23 {k : Nat} {t : ThlS} {r : Nat → BooS} (hV : V k t r zA1) : fX12_amountOf 2000 3 t = some (0, 130) := (r_amountOf hV.R hV.w (z := 3) (by omega)).trans zf23
theorem zf24 : some (iI ((gL (oS zA1)).length : Int)) = some (1) := by decide +kernel
theorem zr24 {k : Nat} {t : ThlS} {r : Nat → BooS} (hV : V k t r zA1) : fX12_lotCount 2000 t = some (1) := (r_lotCount hV.R hV.w).trans zf24
theorem zf25 : (rCost (oS zA1) (2 : Int32).toInt).1 = 0 ∧ iI (rCost (oS zA1) (2 : Int32).toInt).2 = 60 := by decide +kernel
theorem zr25 {k : Nat} {t : ThlS} {r : Nat → BooS} (hV : V k t r zA1) : fX12_costOf 2000 2 t = some (0, 60) := (V_costOf hV 2).trans (by rw [zf25.1, zf25.2])
theorem zf26 : (rCost (oS zA1) (2 : Int32).toInt).1 = 0 ∧ iI (rCost (oS zA1) (2 : Int32).toInt).2 = 60 := by decide +kernel
theorem zr26 {k : Nat} {t : ThlS} {r : Nat → BooS} (hV : V k t r zA1) : fX12_costByCostumes 2000 2 t = some (0, 60) := (V_costByCostumes hV 2).trans (by rw [zf26.1, zf26.2])
theorem zf27 : iI (resR (rCost (oS zA1) (3 : Int32).toInt)) = -900003 := by decide +kernel
theorem zf28 : lSum (gL (oS zA1)) ≠ 0 ∧ FP.ddiv (FP.i2d (iI (sCost (lSum (gL (oS zA1))) (gL (oS zA1))))) (FP.i2d (iI (lSum (gL (oS zA1))))) = 4629137466983448576 := by decide +kernel
theorem zr28 {k : Nat} {t : ThlS} {r : Nat → BooS} (hV : V k t r zA1) : fX12_meanPrice 2000 t = some (0, 4629137466983448576) := (r_meanPrice (Nat.le_refl _) hV.R hV.w zf28.1).trans (by rw [zf28.2])
theorem zf29 : some (iI ((gB (oS zA1)).1.length : Int)) = some (2) := by decide +kernel
theorem zr29 {k : Nat} {t : ThlS} {r : Nat → BooS} (hV : V k t r zA1) : fX12_billCount 2000 t = some (2) := (r_billCount hV.R hV.w).trans zf29
theorem zf30 : some (iI (bSum (gB (oS zA1)).1)) = some (50) := by decide +kernel
theorem zr30 {k : Nat} {t : ThlS} {r : Nat → BooS} (hV : V k t r zA1) : fX12_openTotal 2000 t = some (50) := (r_openTotal (Nat.le_refl _) hV.R hV.w).trans zf30
theorem zf31 : iB (decide (chS (oS zA1) 50 ≠ 0)) = 1 := by decide +kernel
theorem zr31 {k : Nat} {t : ThlS} {r : Nat → BooS} (hV : V k t r zA1) : ∃ u, fX12_isMatched 2000 50 t = some (0, 1, Thls3 t u) := by
  obtain ⟨u, q⟩ := r_isMatched (N := 2000) (Nat.le_refl _) hV.R hV.w (m := 50) (by omega) (by omega)
  exact ⟨u, q.trans (by rw [zf31])⟩
theorem zf32 : iB (decide (chS (oS zA1) 50 ≠ 0)) = 1 := by decide +kernel
theorem zr32 {k : Nat} {t : ThlS} {r : Nat → BooS} (hV : V k t r zA1) : ∃ u, fX12_isMatchedBySets 2000 50 t = some (0, 1, Thls3 t u) := by
  obtain ⟨u, q⟩ := r_isMatchedBySets (N := 2000) (Nat.le_refl _) hV.R hV.w (m := 50) (by omega) (by omega)
  exact ⟨u, q.trans (by rw [zf32])⟩
theorem zf33 : (rSize (oS zA1) (50 : Int32).toInt).1 = 0 ∧ iI (rSize (oS zA1) (50 : Int32).toInt).2 = 2 := by decide +kernel
theorem zr33 {k : Nat} {t : ThlS} {r : Nat → BooS} (hV : V k t r zA1) : ∃ u, fX12_matchSize 2000 50 t = some (0, 2, Thls3 t u) := by
  obtain ⟨u, q⟩ := V_matchSize hV 50 (by decide)
  exact ⟨u, q.trans (by rw [zf33.1, zf33.2])⟩
theorem zf34 : (rIn (oS zA1) (0 : Int32).toInt (50 : Int32).toInt).1 = 0 ∧ iI (rIn (oS zA1) (0 : Int32).toInt (50 : Int32).toInt).2 = 1 := by decide +kernel
theorem zr34 {k : Nat} {t : ThlS} {r : Nat → BooS} (hV : V k t r zA1) : ∃ u, fX12_isInMatch 2000 0 50 t = some (0, 1, Thls3 t u) := by
  obtain ⟨u, q⟩ := V_isInMatch hV 0 50 (by decide)
  exact ⟨u, q.trans (by rw [zf34.1, zf34.2])⟩
theorem zf35 : (rIn (oS zA1) (0 : Int32).toInt (20 : Int32).toInt).1 = 0 ∧ iI (rIn (oS zA1) (0 : Int32).toInt (20 : Int32).toInt).2 = 0 := by decide +kernel
theorem zr35 {k : Nat} {t : ThlS} {r : Nat → BooS} (hV : V k t r zA1) : ∃ u, fX12_isInMatch 2000 0 20 t = some (0, 0, Thls3 t u) := by
  obtain ⟨u, q⟩ := V_isInMatch hV 0 20 (by decide)
  exact ⟨u, q.trans (by rw [zf35.1, zf35.2])⟩
theorem zf36 : iI (resR (rIn (oS zA1) (2 : Int32).toInt (20 : Int32).toInt)) = -900005 := by decide +kernel
theorem zg36 : (rIn (oS zA1) (2 : Int32).toInt (20 : Int32).toInt).1 ≠ 0 := by decide +kernel
theorem zf37 : iB (decide (chS (oS zA1) 40 ≠ 0)) = 0 := by decide +kernel
theorem zr37 {k : Nat} {t : ThlS} {r : Nat → BooS} (hV : V k t r zA1) : ∃ u, fX12_isMatched 2000 40 t = some (0, 0, Thls3 t u) := by
  obtain ⟨u, q⟩ := r_isMatched (N := 2000) (Nat.le_refl _) hV.R hV.w (m := 40) (by omega) (by omega)
  exact ⟨u, q.trans (by rw [zf37])⟩
def zA2 : SO := (lO zA1 (gPay (oS zA1) (40 : Int32).toInt)).2.2
theorem zf38 : (lO zA1 (gPay (oS zA1) (40 : Int32).toInt)).1 = 0 ∧ iI (lO zA1 (gPay (oS zA1) (40 : Int32).toInt)).2.1 = 1 := by decide +kernel
theorem zr38 {k : Nat} {t : ThlS} {r : Nat → BooS} (hV : V k t r zA1) (hn : k + 1 ≤ 512) : ∃ t' r', fX12_pay 2000 40 t r = some (0, 1, t', r') ∧ V (k + 1) t' r' zA2 := by
  obtain ⟨t', r', q, q2⟩ := V_pay hV hn 40
  exact ⟨t', r', q.trans (by rw [zf38.1, zf38.2]), q2⟩
theorem zf39 : (rOpenA (oS zA2) (1 : Int32).toInt).1 = 0 ∧ iI (rOpenA (oS zA2) (1 : Int32).toInt).2 = 10 := by decide +kernel
theorem zr39 {k : Nat} {t : ThlS} {r : Nat → BooS} (hV : V k t r zA2) : fX12_openAmount 2000 1 t = some (0, 10) := (V_openAmount hV 1).trans (by rw [zf39.1, zf39.2])
theorem zf40 : iI (resR (rOpenA (oS zA2) (0 : Int32).toInt)) = -900005 := by decide +kernel
theorem zf41 : bal (gA (oS zA2)) 0 + bal (gA (oS zA2)) 1 + bal (gA (oS zA2)) 2 ≠ 0 ∧ FP.fdiv (FP.i2f (iI (bal (gA (oS zA2)) 2))) (FP.i2f (iI (bal (gA (oS zA2)) 0 + bal (gA (oS zA2)) 1 + bal (gA (oS zA2)) 2))) = 1013367476 := by decide +kernel
theorem zr41 {k : Nat} {t : ThlS} {r : Nat → BooS} (hV : V k t r zA2) : fX12_claimShare 2000 t = some (0, 1013367476) := (r_claimShare hV.R hV.w zf41.1).trans (by rw [zf41.2])
theorem zf42 : iI (resO (lO zA2 (gPay (oS zA2) (11 : Int32).toInt))) = -900003 ∧ (gPay (oS zA2) (11 : Int32).toInt).1 ≠ 0 := by decide +kernel
def zA3 : SO := (lO zA2 (gRev (oS zA2) (7 : Int32).toInt)).2.2
theorem zf43 : (lO zA2 (gRev (oS zA2) (7 : Int32).toInt)).1 = 0 ∧ iI (lO zA2 (gRev (oS zA2) (7 : Int32).toInt)).2.1 = 9 := by decide +kernel
theorem zr43 {k : Nat} {t : ThlS} {r : Nat → BooS} (hV : V k t r zA2) (hn : k + 1 ≤ 512) : ∃ t' r', fX12_reverse 2000 7 t r = some (0, 9, t', r') ∧ V (k + 1) t' r' zA3 := by
  obtain ⟨t', r', q, q2⟩ := V_reverse hV hn 7
  exact ⟨t', r', q.trans (by rw [zf43.1, zf43.2]), q2⟩
theorem zf44 : some (if (jN (gJ (oS zA3)) : Int) - jK (gJ (oS zA3)) ≤ 7 ∧ (7 : Int) < jN (gJ (oS zA3)) then ((0 : Nat), iB (decide (jM (gJ (oS zA3)) (7 : Int).toNat = 1))) else (2, 0)) = some (0, 1) := by decide +kernel
theorem zr44 {k : Nat} {t : ThlS} {r : Nat → BooS} (hV : V k t r zA3) : fX12_isReversed 2000 7 t = some (0, 1) := (r_isReversed hV.R hV.w (z := 7) (by omega)).trans zf44
theorem zf45 : iI (resO (lO zA3 (gRev (oS zA3) (7 : Int32).toInt))) = -900003 ∧ (gRev (oS zA3) (7 : Int32).toInt).1 ≠ 0 := by decide +kernel
theorem zf46 : iI (resO (lO zA3 (gRev (oS zA3) (9 : Int32).toInt))) = -900003 ∧ (gRev (oS zA3) (9 : Int32).toInt).1 ≠ 0 := by decide +kernel
theorem zf47 : some (if (0 : Int) ≤ 0 ∧ (0 : Int) < aN (gA (oS zA3)) then ((0 : Nat), iL (bal (gA (oS zA3)) (0 : Int).toNat)) else (1, 0)) = some (0, 590) := by decide +kernel
theorem zr47 {k : Nat} {t : ThlS} {r : Nat → BooS} (hV : V k t r zA3) : fX12_balance 2000 0 t = some (0, 590) := (r_balance hV.R hV.w (z := 0) (by omega)).trans zf47
theorem zf48 : some (if (0 : Int) ≤ 2 ∧ (2 : Int) < aN (gA (oS zA3)) then ((0 : Nat), iL (bal (gA (oS zA3)) (2 : Int).toNat)) else (1, 0)) = some (0, 60) := by decide +kernel
theorem zr48 {k : Nat} {t : ThlS} {r : Nat → BooS} (hV : V k t r zA3) : fX12_balance 2000 2 t = some (0, 60) := (r_balance hV.R hV.w (z := 2) (by omega)).trans zf48
theorem zf49 : some (iI (bSum (gB (oS zA3)).1)) = some (10) := by decide +kernel
theorem zr49 {k : Nat} {t : ThlS} {r : Nat → BooS} (hV : V k t r zA3) : fX12_openTotal 2000 t = some (10) := (r_openTotal (Nat.le_refl _) hV.R hV.w).trans zf49
def zA4 : SO := (oS zA3, oH zA3, oV zA3, oT zA3, oE zA3, oF zA3, (eTx (7 : Int).toNat (jD (gJ (oS zA3)) (7 : Int).toNat) (jC (gJ (oS zA3)) (7 : Int).toNat) (jA (gJ (oS zA3)) (7 : Int).toNat) (jM (gJ (oS zA3)) (7 : Int).toNat)))
theorem zf50 : ((jN (gJ (oS zA3)) : Int) - jK (gJ (oS zA3)) ≤ 7 ∧ (7 : Int) < jN (gJ (oS zA3))) ∧ (eTx (7 : Int).toNat (jD (gJ (oS zA3)) (7 : Int).toNat) (jC (gJ (oS zA3)) (7 : Int).toNat) (jA (gJ (oS zA3)) (7 : Int).toNat) (jM (gJ (oS zA3)) (7 : Int).toNat)) = txI 16 := by decide +kernel
theorem zr50 {k : Nat} {t : ThlS} {r : Nat → BooS} (hV : V k t r zA3) : ∃ t', fX12_writeEntry 2000 7 t = some (0, iI ((txI 16).length : Int), t') ∧ V k t' r zA4 := by
  obtain ⟨t', q, q2⟩ := V_write hV (z := 7) zf50.1
  exact ⟨t', q.trans (by rw [zf50.2]), q2⟩
theorem zr50_o : oO zA4 = txI 16 := zf50.2
def zA5 : SO := (oS zA4, oH zA4, oV zA4, oT zA4, oE zA4, oF zA4, (eTx (9 : Int).toNat (jD (gJ (oS zA4)) (9 : Int).toNat) (jC (gJ (oS zA4)) (9 : Int).toNat) (jA (gJ (oS zA4)) (9 : Int).toNat) (jM (gJ (oS zA4)) (9 : Int).toNat)))
theorem zf51 : ((jN (gJ (oS zA4)) : Int) - jK (gJ (oS zA4)) ≤ 9 ∧ (9 : Int) < jN (gJ (oS zA4))) ∧ (eTx (9 : Int).toNat (jD (gJ (oS zA4)) (9 : Int).toNat) (jC (gJ (oS zA4)) (9 : Int).toNat) (jA (gJ (oS zA4)) (9 : Int).toNat) (jM (gJ (oS zA4)) (9 : Int).toNat)) = txI 17 := by decide +kernel
theorem zr51 {k : Nat} {t : ThlS} {r : Nat → BooS} (hV : V k t r zA4) : ∃ t', fX12_writeEntry 2000 9 t = some (0, iI ((txI 17).length : Int), t') ∧ V k t' r zA5 := by
  obtain ⟨t', q, q2⟩ := V_write hV (z := 9) zf51.1
  exact ⟨t', q.trans (by rw [zf51.2]), q2⟩
theorem zr51_o : oO zA5 = txI 17 := zf51.2
def zA6 (n : Nat) : SO := (lO zA5 (gPrompt (oS zA5) (5 : Int32).toInt (0 : Int32).toInt ((iI (n : Int)) : Int32).toInt (2 : Int32).toInt (2 : Int32).toInt)).2.2
theorem zf52 : ∀ n : Nat, n < 9 → 0 < n → (lO zA5 (gPrompt (oS zA5) (5 : Int32).toInt (0 : Int32).toInt ((iI (n : Int)) : Int32).toInt (2 : Int32).toInt (2 : Int32).toInt)).1 = 0 ∧ iI (lO zA5 (gPrompt (oS zA5) (5 : Int32).toInt (0 : Int32).toInt ((iI (n : Int)) : Int32).toInt (2 : Int32).toInt (2 : Int32).toInt)).2.1 = 0 := by decide +kernel
theorem zr52 {n : Nat} (h9 : n < 9) (h0 : 0 < n) {k : Nat} {t : ThlS} {r : Nat → BooS} (hV : V k t r zA5) (hn : k + 1 ≤ 512) : ∃ t' r', fX12_prompt 2000 5 0 (iI (n : Int)) 2 2 t r = some (0, 0, t', r') ∧ V (k + 1) t' r' (zA6 n) := by
  obtain ⟨t', r', q, q2⟩ := V_prompt hV hn 5 0 (iI (n : Int)) 2 2
  exact ⟨t', r', q.trans (by rw [(zf52 n h9 h0).1, (zf52 n h9 h0).2]), q2⟩
theorem zf53 : ∀ n : Nat, n < 9 → 0 < n → some (if (0 : Int) ≤ 0 ∧ (0 : Int) < (gP (oS (zA6 n))).length then ((0 : Nat), iI ((gP (oS (zA6 n)))[(0 : Int).toNat]?.getD (0, 0, 0, 0, 0, 0)).2.2.2.2.2) else (1, 0)) = some (0, 2) := by decide +kernel
theorem zr53 {n : Nat} (h9 : n < 9) (h0 : 0 < n) {k : Nat} {t : ThlS} {r : Nat → BooS} (hV : V k t r (zA6 n)) : fX12_hoursUntilPrompt 2000 0 t = some (0, 2) := (r_hoursUntilPrompt hV.R hV.w (z := 0) (by omega)).trans (zf53 n h9 h0)
theorem zf54 : ∀ n : Nat, n < 9 → 0 < n → some ((0 : Nat), iL (bal (gA (oS (zA6 n))) 0 + ntS 1 (gP (oS (zA6 n))))) = some (0, 590) := by decide +kernel
theorem zr54 {n : Nat} (h9 : n < 9) (h0 : 0 < n) {k : Nat} {t : ThlS} {r : Nat → BooS} (hV : V k t r (zA6 n)) : fX12_cashIn 2000 1 t = some (0, 590) := (r_cashIn (Nat.le_refl _) hV.R hV.w (z := 1) (by omega) (by omega)).trans (zf54 n h9 h0)
theorem zf55 : ∀ n : Nat, n < 9 → 0 < n → some ((0 : Nat), iL (bal (gA (oS (zA6 n))) 0 + ntS 2 (gP (oS (zA6 n))))) = some (0, 590 - (iI (n : Int)).toInt64) := by decide +kernel
theorem zr55 {n : Nat} (h9 : n < 9) (h0 : 0 < n) {k : Nat} {t : ThlS} {r : Nat → BooS} (hV : V k t r (zA6 n)) : fX12_cashIn 2000 2 t = some (0, 590 - (iI (n : Int)).toInt64) := (r_cashIn (Nat.le_refl _) hV.R hV.w (z := 2) (by omega) (by omega)).trans (zf55 n h9 h0)
theorem zf56 : ∀ n : Nat, n < 9 → 0 < n → some ((0 : Nat), iL (bal (gA (oS (zA6 n))) 0 + ntS 24 (gP (oS (zA6 n))))) = some (0, 590 - (2 * (iI (n : Int))).toInt64) := by decide +kernel
theorem zr56 {n : Nat} (h9 : n < 9) (h0 : 0 < n) {k : Nat} {t : ThlS} {r : Nat → BooS} (hV : V k t r (zA6 n)) : fX12_cashIn 2000 24 t = some (0, 590 - (2 * (iI (n : Int))).toInt64) := (r_cashIn (Nat.le_refl _) hV.R hV.w (z := 24) (by omega) (by omega)).trans (zf56 n h9 h0)
def zA7 (n : Nat) : SO := (lO (zA6 n) (gPass (oS (zA6 n)) (3 : Int32).toInt)).2.2
theorem zf57 : ∀ n : Nat, n < 9 → 0 < n → (lO (zA6 n) (gPass (oS (zA6 n)) (3 : Int32).toInt)).1 = 0 ∧ iI (lO (zA6 n) (gPass (oS (zA6 n)) (3 : Int32).toInt)).2.1 = 1 := by decide +kernel
theorem zr57 {n : Nat} (h9 : n < 9) (h0 : 0 < n) {k : Nat} {t : ThlS} {r : Nat → BooS} (hV : V k t r (zA6 n)) (hn : k + 1 ≤ 512) : ∃ t' r', fX12_passHours 2000 3 t r = some (0, 1, t', r') ∧ V (k + 1) t' r' (zA7 n) := by
  obtain ⟨t', r', q, q2⟩ := V_passHours hV hn 3
  exact ⟨t', r', q.trans (by rw [(zf57 n h9 h0).1, (zf57 n h9 h0).2]), q2⟩
theorem zf58 : ∀ n : Nat, n < 9 → 0 < n → some (if (0 : Int) ≤ 0 ∧ (0 : Int) < aN (gA (oS (zA7 n))) then ((0 : Nat), iL (bal (gA (oS (zA7 n))) (0 : Int).toNat)) else (1, 0)) = some (0, 590 - (iI (n : Int)).toInt64) := by decide +kernel
theorem zr58 {n : Nat} (h9 : n < 9) (h0 : 0 < n) {k : Nat} {t : ThlS} {r : Nat → BooS} (hV : V k t r (zA7 n)) : fX12_balance 2000 0 t = some (0, 590 - (iI (n : Int)).toInt64) := (r_balance hV.R hV.w (z := 0) (by omega)).trans (zf58 n h9 h0)
theorem zf59 : ∀ n : Nat, n < 9 → 0 < n → some (if (0 : Int) ≤ 0 ∧ (0 : Int) < (gP (oS (zA7 n))).length then ((0 : Nat), iI ((gP (oS (zA7 n)))[(0 : Int).toNat]?.getD (0, 0, 0, 0, 0, 0)).2.2.2.2.2) else (1, 0)) = some (0, 1) := by decide +kernel
theorem zr59 {n : Nat} (h9 : n < 9) (h0 : 0 < n) {k : Nat} {t : ThlS} {r : Nat → BooS} (hV : V k t r (zA7 n)) : fX12_hoursUntilPrompt 2000 0 t = some (0, 1) := (r_hoursUntilPrompt hV.R hV.w (z := 0) (by omega)).trans (zf59 n h9 h0)
theorem zf60 : ∀ n : Nat, n < 9 → 0 < n → some (if (0 : Int) ≤ 0 ∧ (0 : Int) < (gP (oS (zA7 n))).length then ((0 : Nat), iI ((gP (oS (zA7 n)))[(0 : Int).toNat]?.getD (0, 0, 0, 0, 0, 0)).2.2.2.2.1) else (1, 0)) = some (0, 1) := by decide +kernel
theorem zr60 {n : Nat} (h9 : n < 9) (h0 : 0 < n) {k : Nat} {t : ThlS} {r : Nat → BooS} (hV : V k t r (zA7 n)) : fX12_timesLeft 2000 0 t = some (0, 1) := (r_timesLeft hV.R hV.w (z := 0) (by omega)).trans (zf60 n h9 h0)
def zA8 (n : Nat) : SO := (lO (zA7 n) (gPass (oS (zA7 n)) (1 : Int32).toInt)).2.2
theorem zf61 : ∀ n : Nat, n < 9 → 0 < n → (lO (zA7 n) (gPass (oS (zA7 n)) (1 : Int32).toInt)).1 = 0 ∧ iI (lO (zA7 n) (gPass (oS (zA7 n)) (1 : Int32).toInt)).2.1 = 1 := by decide +kernel
theorem zr61 {n : Nat} (h9 : n < 9) (h0 : 0 < n) {k : Nat} {t : ThlS} {r : Nat → BooS} (hV : V k t r (zA7 n)) (hn : k + 1 ≤ 512) : ∃ t' r', fX12_passHours 2000 1 t r = some (0, 1, t', r') ∧ V (k + 1) t' r' (zA8 n) := by
  obtain ⟨t', r', q, q2⟩ := V_passHours hV hn 1
  exact ⟨t', r', q.trans (by rw [(zf61 n h9 h0).1, (zf61 n h9 h0).2]), q2⟩
theorem zf62 : ∀ n : Nat, n < 9 → 0 < n → some (iI ((gP (oS (zA8 n))).length : Int)) = some (0) := by decide +kernel
theorem zr62 {n : Nat} (h9 : n < 9) (h0 : 0 < n) {k : Nat} {t : ThlS} {r : Nat → BooS} (hV : V k t r (zA8 n)) : fX12_promptCount 2000 t = some (0) := (r_promptCount hV.R hV.w).trans (zf62 n h9 h0)
theorem zf63 : ∀ n : Nat, n < 9 → 0 < n → some (iI (gH (oS (zA8 n)) : Int)) = some (4) := by decide +kernel
theorem zr63 {n : Nat} (h9 : n < 9) (h0 : 0 < n) {k : Nat} {t : ThlS} {r : Nat → BooS} (hV : V k t r (zA8 n)) : fX12_hour 2000 t = some (4) := (r_hour hV.R hV.w).trans (zf63 n h9 h0)
theorem zf64 : ∀ n : Nat, n < 9 → 0 < n → some (if (jN (gJ (oS (zA8 n))) : Int) - jK (gJ (oS (zA8 n))) ≤ 11 ∧ (11 : Int) < jN (gJ (oS (zA8 n))) then ((0 : Nat), iI (jH (gJ (oS (zA8 n))) (11 : Int).toNat)) else (2, 0)) = some (0, 4) := by decide +kernel
theorem zr64 {n : Nat} (h9 : n < 9) (h0 : 0 < n) {k : Nat} {t : ThlS} {r : Nat → BooS} (hV : V k t r (zA8 n)) : fX12_hourOf 2000 11 t = some (0, 4) := (r_hourOf hV.R hV.w (z := 11) (by omega)).trans (zf64 n h9 h0)
theorem zf65 : ∀ n : Nat, n < 9 → 0 < n → iI (resO (lO (zA8 n) (gCancel (oS (zA8 n)) (0 : Int32).toInt))) = -900001 ∧ (gCancel (oS (zA8 n)) (0 : Int32).toInt).1 ≠ 0 := by decide +kernel
def zA9 (n : Nat) : SO := (oCur (zA8 n)).2.2
theorem zfcur : ∀ n : Nat, n < 9 → 0 < n → iI (oCur (zA8 n)).2.1 = 210 - 2 * (iI (n : Int)) := by decide +kernel
theorem zrcur {n : Nat} (h9 : n < 9) (h0 : 0 < n) {k : Nat} {t : ThlS} {r : Nat → BooS} (hV : V k t r (zA8 n)) (hn : k + 1 ≤ 512) : ∃ t' r', fX12_curtain 2000 t r = some (210 - 2 * (iI (n : Int)), t', r') ∧ V (k + 1) t' r' (zA9 n) := by
  obtain ⟨t', r', q, q2⟩ := V_curtain hV hn
  exact ⟨t', r', q.trans (by rw [zfcur n h9 h0]), q2⟩
theorem zf66 : ∀ n : Nat, n < 9 → 0 < n → some (iL (sumN (gainAt (gA (oS (zA9 n)))) (aN (gA (oS (zA9 n)))))) = some (0) := by decide +kernel
theorem zr66 {n : Nat} (h9 : n < 9) (h0 : 0 < n) {k : Nat} {t : ThlS} {r : Nat → BooS} (hV : V k t r (zA9 n)) : fX12_profit 2000 t = some (0) := (r_profit (Nat.le_refl _) hV.R hV.w).trans (zf66 n h9 h0)
theorem zf67 : ∀ n : Nat, n < 9 → 0 < n → some (if (0 : Int) ≤ 3 ∧ (3 : Int) < aN (gA (oS (zA9 n))) then ((0 : Nat), iL (bal (gA (oS (zA9 n))) (3 : Int).toNat)) else (1, 0)) = some (0, 710 - (2 * (iI (n : Int))).toInt64) := by decide +kernel
theorem zr67 {n : Nat} (h9 : n < 9) (h0 : 0 < n) {k : Nat} {t : ThlS} {r : Nat → BooS} (hV : V k t r (zA9 n)) : fX12_balance 2000 3 t = some (0, 710 - (2 * (iI (n : Int))).toInt64) := (r_balance hV.R hV.w (z := 3) (by omega)).trans (zf67 n h9 h0)
theorem zf68 : ∀ n : Nat, n < 9 → 0 < n → some (if (0 : Int) ≤ 4 ∧ (4 : Int) < aN (gA (oS (zA9 n))) then ((0 : Nat), iL (bal (gA (oS (zA9 n))) (4 : Int).toNat)) else (1, 0)) = some (0, 0) := by decide +kernel
theorem zr68 {n : Nat} (h9 : n < 9) (h0 : 0 < n) {k : Nat} {t : ThlS} {r : Nat → BooS} (hV : V k t r (zA9 n)) : fX12_balance 2000 4 t = some (0, 0) := (r_balance hV.R hV.w (z := 4) (by omega)).trans (zf68 n h9 h0)
theorem zf69 : ∀ n : Nat, n < 9 → 0 < n → some (iI (gC (oS (zA9 n)) : Int)) = some (1) := by decide +kernel
theorem zr69 {n : Nat} (h9 : n < 9) (h0 : 0 < n) {k : Nat} {t : ThlS} {r : Nat → BooS} (hV : V k t r (zA9 n)) : fX12_curtainCount 2000 t = some (1) := (r_curtainCount hV.R hV.w).trans (zf69 n h9 h0)
def zA10 (n : Nat) : SO := (oUndo (zA9 n)).2.2
theorem zfund : ∀ n : Nat, n < 9 → 0 < n → (oUndo (zA9 n)).1 = 0 ∧ ¬ (iI (oUndo (zA9 n)).2.1 < 0) := by decide +kernel
theorem zrund {n : Nat} (h9 : n < 9) (h0 : 0 < n) {k : Nat} {t : ThlS} {r : Nat → BooS} (hV : V k t r (zA9 n)) : ∃ t' r', fX12_undo 2000 t r = some (0, iI (oUndo (zA9 n)).2.1, t', r') ∧ V (k + 1) t' r' (zA10 n) := by
  obtain ⟨t', r', q, q2⟩ := V_undo hV
  exact ⟨t', r', q.trans (by rw [(zfund n h9 h0).1]), q2⟩
theorem zf70 : ∀ n : Nat, n < 9 → 0 < n → some (iL (sumN (gainAt (gA (oS (zA10 n)))) (aN (gA (oS (zA10 n)))))) = some (210 - (2 * (iI (n : Int))).toInt64) := by decide +kernel
theorem zr70 {n : Nat} (h9 : n < 9) (h0 : 0 < n) {k : Nat} {t : ThlS} {r : Nat → BooS} (hV : V k t r (zA10 n)) : fX12_profit 2000 t = some (210 - (2 * (iI (n : Int))).toInt64) := (r_profit (Nat.le_refl _) hV.R hV.w).trans (zf70 n h9 h0)
theorem zf71 : ∀ n : Nat, n < 9 → 0 < n → some (if (0 : Int) ≤ 3 ∧ (3 : Int) < aN (gA (oS (zA10 n))) then ((0 : Nat), iL (bal (gA (oS (zA10 n))) (3 : Int).toNat)) else (1, 0)) = some (0, 500) := by decide +kernel
theorem zr71 {n : Nat} (h9 : n < 9) (h0 : 0 < n) {k : Nat} {t : ThlS} {r : Nat → BooS} (hV : V k t r (zA10 n)) : fX12_balance 2000 3 t = some (0, 500) := (r_balance hV.R hV.w (z := 3) (by omega)).trans (zf71 n h9 h0)
theorem zf72 : ∀ n : Nat, n < 9 → 0 < n → some (iI (gC (oS (zA10 n)) : Int)) = some (0) := by decide +kernel
theorem zr72 {n : Nat} (h9 : n < 9) (h0 : 0 < n) {k : Nat} {t : ThlS} {r : Nat → BooS} (hV : V k t r (zA10 n)) : fX12_curtainCount 2000 t = some (0) := (r_curtainCount hV.R hV.w).trans (zf72 n h9 h0)
def zA11 (n : Nat) : SO := (lO (zA10 n) (gOpenB (oS (zA10 n)) (0 : Int32).toInt)).2.2
theorem zf73 : ∀ n : Nat, n < 9 → 0 < n → (lO (zA10 n) (gOpenB (oS (zA10 n)) (0 : Int32).toInt)).1 = 0 ∧ iI (lO (zA10 n) (gOpenB (oS (zA10 n)) (0 : Int32).toInt)).2.1 = 6 := by decide +kernel
theorem zr73 {n : Nat} (h9 : n < 9) (h0 : 0 < n) {k : Nat} {t : ThlS} {r : Nat → BooS} (hV : V k t r (zA10 n)) (hn : k + 1 ≤ 512) : ∃ t' r', fX12_openBelow 2000 0 t r = some (0, 6, t', r') ∧ V (k + 1) t' r' (zA11 n) := by
  obtain ⟨t', r', q, q2⟩ := V_openBelow hV hn 0
  exact ⟨t', r', q.trans (by rw [(zf73 n h9 h0).1, (zf73 n h9 h0).2]), q2⟩
def zA12 (n : Nat) : SO := (lO (zA11 n) (gOpenB (oS (zA11 n)) (6 : Int32).toInt)).2.2
theorem zf74 : ∀ n : Nat, n < 9 → 0 < n → (lO (zA11 n) (gOpenB (oS (zA11 n)) (6 : Int32).toInt)).1 = 0 ∧ iI (lO (zA11 n) (gOpenB (oS (zA11 n)) (6 : Int32).toInt)).2.1 = 7 := by decide +kernel
theorem zr74 {n : Nat} (h9 : n < 9) (h0 : 0 < n) {k : Nat} {t : ThlS} {r : Nat → BooS} (hV : V k t r (zA11 n)) (hn : k + 1 ≤ 512) : ∃ t' r', fX12_openBelow 2000 6 t r = some (0, 7, t', r') ∧ V (k + 1) t' r' (zA12 n) := by
  obtain ⟨t', r', q, q2⟩ := V_openBelow hV hn 6
  exact ⟨t', r', q.trans (by rw [(zf74 n h9 h0).1, (zf74 n h9 h0).2]), q2⟩
theorem zf75 : ∀ n : Nat, n < 9 → 0 < n → (rParent (oS (zA12 n)) (7 : Int32).toInt).1 = 0 ∧ iI (rParent (oS (zA12 n)) (7 : Int32).toInt).2 = 6 := by decide +kernel
theorem zr75 {n : Nat} (h9 : n < 9) (h0 : 0 < n) {k : Nat} {t : ThlS} {r : Nat → BooS} (hV : V k t r (zA12 n)) : fX12_parent 2000 7 t = some (0, 6) := (V_parent hV 7).trans (by rw [(zf75 n h9 h0).1, (zf75 n h9 h0).2])
theorem zf76 : ∀ n : Nat, n < 9 → 0 < n → some (if (0 : Int) ≤ 7 ∧ (7 : Int) < aN (gA (oS (zA12 n))) then ((0 : Nat), iI (aK (gA (oS (zA12 n))) (7 : Int).toNat)) else (1, 0)) = some (0, 97) := by decide +kernel
theorem zr76 {n : Nat} (h9 : n < 9) (h0 : 0 < n) {k : Nat} {t : ThlS} {r : Nat → BooS} (hV : V k t r (zA12 n)) : fX12_kind 2000 7 t = some (0, 97) := (r_kind hV.R hV.w (z := 7) (by omega)).trans (zf76 n h9 h0)
theorem zf77 : ∀ n : Nat, n < 9 → 0 < n → iI (resR (rParent (oS (zA12 n)) (0 : Int32).toInt)) = -900005 := by decide +kernel
theorem zf78 : ∀ n : Nat, n < 9 → 0 < n → some (if (0 : Int) ≤ 0 ∧ (0 : Int) < aN (gA (oS (zA12 n))) then ((0 : Nat), iI (sTreeSize (gA (oS (zA12 n))) (0 : Int).toNat)) else (1, 0)) = some (0, 3) := by decide +kernel
theorem zr78 {n : Nat} (h9 : n < 9) (h0 : 0 < n) {k : Nat} {t : ThlS} {r : Nat → BooS} (hV : V k t r (zA12 n)) : fX12_treeSize 2000 0 t = some (0, 3) := (r_treeSize (Nat.le_refl _) hV.R hV.w (z := 0) (by omega)).trans (zf78 n h9 h0)
theorem zf79 : ∀ n : Nat, n < 9 → 0 < n → some (if (0 : Int) ≤ 6 ∧ (6 : Int) < aN (gA (oS (zA12 n))) then ((0 : Nat), iI (sTreeSize (gA (oS (zA12 n))) (6 : Int).toNat)) else (1, 0)) = some (0, 2) := by decide +kernel
theorem zr79 {n : Nat} (h9 : n < 9) (h0 : 0 < n) {k : Nat} {t : ThlS} {r : Nat → BooS} (hV : V k t r (zA12 n)) : fX12_treeSize 2000 6 t = some (0, 2) := (r_treeSize (Nat.le_refl _) hV.R hV.w (z := 6) (by omega)).trans (zf79 n h9 h0)
def zA13 (n : Nat) : SO := (lO (zA12 n) (gPost (oS (zA12 n)) (7 : Int32).toInt (0 : Int32).toInt (90 : Int32).toInt)).2.2
theorem zf80 : ∀ n : Nat, n < 9 → 0 < n → (lO (zA12 n) (gPost (oS (zA12 n)) (7 : Int32).toInt (0 : Int32).toInt (90 : Int32).toInt)).1 = 0 ∧ iI (lO (zA12 n) (gPost (oS (zA12 n)) (7 : Int32).toInt (0 : Int32).toInt (90 : Int32).toInt)).2.1 = 12 := by decide +kernel
theorem zr80 {n : Nat} (h9 : n < 9) (h0 : 0 < n) {k : Nat} {t : ThlS} {r : Nat → BooS} (hV : V k t r (zA12 n)) (hn : k + 1 ≤ 512) : ∃ t' r', fX12_post 2000 7 0 90 t r = some (0, 12, t', r') ∧ V (k + 1) t' r' (zA13 n) := by
  obtain ⟨t', r', q, q2⟩ := V_post hV hn 7 0 90
  exact ⟨t', r', q.trans (by rw [(zf80 n h9 h0).1, (zf80 n h9 h0).2]), q2⟩
theorem zf81 : ∀ n : Nat, n < 9 → 0 < n → some (if (0 : Int) ≤ 0 ∧ (0 : Int) < aN (gA (oS (zA13 n))) then ((0 : Nat), iL (sTreeSum (gA (oS (zA13 n))) (0 : Int).toNat)) else (1, 0)) = some (0, 590 - (2 * (iI (n : Int))).toInt64) := by decide +kernel
theorem zr81 {n : Nat} (h9 : n < 9) (h0 : 0 < n) {k : Nat} {t : ThlS} {r : Nat → BooS} (hV : V k t r (zA13 n)) : fX12_treeBalance 2000 0 t = some (0, 590 - (2 * (iI (n : Int))).toInt64) := (r_treeBalance (Nat.le_refl _) hV.R hV.w (z := 0) (by omega)).trans (zf81 n h9 h0)
theorem zf82 : ∀ n : Nat, n < 9 → 0 < n → some (if (0 : Int) ≤ 0 ∧ (0 : Int) < aN (gA (oS (zA13 n))) then ((0 : Nat), iL (sTreeSum (gA (oS (zA13 n))) (0 : Int).toNat)) else (1, 0)) = some (0, 590 - (2 * (iI (n : Int))).toInt64) := by decide +kernel
theorem zr82 {n : Nat} (h9 : n < 9) (h0 : 0 < n) {k : Nat} {t : ThlS} {r : Nat → BooS} (hV : V k t r (zA13 n)) : fX12_treeBalanceByParents 2000 0 t = some (0, 590 - (2 * (iI (n : Int))).toInt64) := (r_treeBalanceByParents (Nat.le_refl _) hV.R hV.w (z := 0) (by omega)).trans (zf82 n h9 h0)
theorem zf83 : ∀ n : Nat, n < 9 → 0 < n → some (if (0 : Int) ≤ 0 ∧ (0 : Int) < aN (gA (oS (zA13 n))) then ((0 : Nat), iL (bal (gA (oS (zA13 n))) (0 : Int).toNat)) else (1, 0)) = some (0, 500 - (2 * (iI (n : Int))).toInt64) := by decide +kernel
theorem zr83 {n : Nat} (h9 : n < 9) (h0 : 0 < n) {k : Nat} {t : ThlS} {r : Nat → BooS} (hV : V k t r (zA13 n)) : fX12_balance 2000 0 t = some (0, 500 - (2 * (iI (n : Int))).toInt64) := (r_balance hV.R hV.w (z := 0) (by omega)).trans (zf83 n h9 h0)
theorem zf84 : ∀ n : Nat, n < 9 → 0 < n → some (if (0 : Int) ≤ 6 ∧ (6 : Int) < aN (gA (oS (zA13 n))) then ((0 : Nat), iL (sTreeSum (gA (oS (zA13 n))) (6 : Int).toNat)) else (1, 0)) = some (0, 90) := by decide +kernel
theorem zr84 {n : Nat} (h9 : n < 9) (h0 : 0 < n) {k : Nat} {t : ThlS} {r : Nat → BooS} (hV : V k t r (zA13 n)) : fX12_treeBalance 2000 6 t = some (0, 90) := (r_treeBalance (Nat.le_refl _) hV.R hV.w (z := 6) (by omega)).trans (zf84 n h9 h0)
theorem zf85 : ∀ n : Nat, n < 9 → 0 < n → 3 < aN (gA (oS (zA13 n))) ∧ sRank (gA (oS (zA13 n))) 3 = 0 ∧ ∀ j : Nat, j < 3 → ¬ sRank (gA (oS (zA13 n))) j = 0 := by decide +kernel
theorem zr85 {n : Nat} (h9 : n < 9) (h0 : 0 < n) {k : Nat} {t : ThlS} {r : Nat → BooS} (hV : V k t r (zA13 n)) : fX12_accountByBalance 2000 0 t = some (0, 3) := r_byBalance (N := 2000) (Nat.le_refl _) hV.R hV.w (z := 0) (by omega) 3 (zf85 n h9 h0).1 (zf85 n h9 h0).2.1 (zf85 n h9 h0).2.2
theorem zf86 : ∀ n : Nat, n < 9 → 0 < n → 6 < aN (gA (oS (zA13 n))) ∧ sRank (gA (oS (zA13 n))) 6 = 7 ∧ ∀ j : Nat, j < 6 → ¬ sRank (gA (oS (zA13 n))) j = 7 := by decide +kernel
theorem zr86 {n : Nat} (h9 : n < 9) (h0 : 0 < n) {k : Nat} {t : ThlS} {r : Nat → BooS} (hV : V k t r (zA13 n)) : fX12_accountByBalance 2000 7 t = some (0, 6) := r_byBalance (N := 2000) (Nat.le_refl _) hV.R hV.w (z := 7) (by omega) 6 (zf86 n h9 h0).1 (zf86 n h9 h0).2.1 (zf86 n h9 h0).2.2
theorem zr87 {n : Nat} (h9 : n < 9) (h0 : 0 < n) {k : Nat} {t : ThlS} {r : Nat → BooS} (hV : V k t r (zA13 n)) : ∃ u, fX12_isConsistent 2000 t = some (1, Thls3 t u) := r_isConsistent (N := 2000) (Nat.le_refl _) hV.R hV.w
def zA14 (n : Nat) : SO := (oRun (tW (zA13 n) (txI 18))).2.2
theorem zfrun2 : ∀ n : Nat, n < 9 → 0 < n → iI (resN (oRun (tW (zA13 n) (txI 18)))) = -2 := by decide +kernel
theorem zf88 : ∀ n : Nat, n < 9 → 0 < n → some (iI (aN (gA (oS (zA14 n))) : Int)) = some (8) := by decide +kernel
theorem zr88 {n : Nat} (h9 : n < 9) (h0 : 0 < n) {k : Nat} {t : ThlS} {r : Nat → BooS} (hV : V k t r (zA14 n)) : fX12_accountCount 2000 t = some (8) := (r_accountCount hV.R hV.w).trans (zf88 n h9 h0)
theorem zt0 : oT zA0 = [] := by decide +kernel
theorem zt13 : ∀ n : Nat, n < 9 → 0 < n → oT (zA13 n) = [] := by decide +kernel
