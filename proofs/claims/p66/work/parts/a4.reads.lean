/-! ===== what each reading call answers, as a function of the books ===== -/
theorem fz_d (r : UInt64) (h : FP.Core.dIsNaN r = false) : decide (r &&& 0x7fffffffffffffff ≤ 0x7ff0000000000000) = true := by
  have h1 := (FP.Core.ne_nan r).mp ((FP.Core.notNaN_iff r).mp h)
  refine decide_eq_true ?_
  rw [UInt64.le_iff_toNat_le, UInt64.toNat_and]
  show r.toNat &&& (2 ^ 63 - 1) ≤ 9218868437227405312
  rw [Nat.and_two_pow_sub_one_eq_mod]
  exact h1
theorem fz_f (r : UInt32) (h : FP.Core.fIsNaN r = false) : decide (r &&& 0x7fffffff ≤ 0x7f800000) = true := by
  have h1 := (FP.Core.ne_nan32 r).mp ((FP.Core.notNaN_iff32 r).mp h)
  refine decide_eq_true ?_
  rw [UInt32.le_iff_toNat_le, UInt32.toNat_and]
  show r.toNat &&& (2 ^ 31 - 1) ≤ 2139095040
  rw [Nat.and_two_pow_sub_one_eq_mod]
  exact h1
theorem fz_l2f {z : Int} (h : -2147483648 ≤ z ∧ z < 2147483648) : FP.l2f (iL z) = FP.i2f (iI z) := by
  show FP.Core.l2f (iL z) = FP.Core.i2f (iI z)
  unfold FP.Core.l2f FP.Core.i2f
  rw [l_int (by omega) (by omega), i_int h.1 h.2]
theorem fz_ddiv (a : Int32) {b : Int32} (hb : b ≠ 0) : FP.Core.dIsNaN (FP.ddiv (FP.i2d a) (FP.i2d b)) = false :=
  FP.Core.ddiv_out (FP.Core.i2d_fin a).notNaN (FP.Core.i2d_fin b) fun hz => FP.Core.i2d_ne_zero hb ((FP.Core.zero_bits2 _).mp hz)
theorem fz_fdiv (a : Int32) {b : Int32} (hb : b ≠ 0) : FP.Core.fIsNaN (FP.fdiv (FP.i2f a) (FP.i2f b)) = false :=
  FP.Core.fdiv_out ((FP.Core.notNaN_iff32 _).mpr (by obtain ⟨s, c, q, h⟩ := FP.Core.i2f_fin a; rw [h]; exact FP.Core.Datum.noConfusion)) (FP.Core.i2f_fin b) fun hz => FP.Core.i2f_ne_zero hb ((FP.Core.zero_bits232 _).mp hz)
theorem fz_f2d {r : UInt32} (h : FP.Core.fIsNaN r = false) : FP.Core.dIsNaN (FP.f2d r) = false := by
  unfold FP.f2d
  rw [h, if_neg (by decide)]
  exact FP.Core.f2d_out h
section GRs
variable {N : Nat} {t : ThlS} {r : Nat → BooS} {S : SG} {W : SO} {a b : Nat}
theorem r_hour (hR : RBo t.1 S) (w : WG S) : fX12_hour N t = some (iI (gH S : Int)) := by
  unfold fX12_hour
  rw [hR.2.2.2.2.2.1]
theorem r_accountCount (hR : RBo t.1 S) (w : WG S) : fX12_accountCount N t = some (iI (aN (gA S) : Int)) := by
  unfold fX12_accountCount
  rw [hR.1.2.1]
theorem r_curtainCount (hR : RBo t.1 S) (w : WG S) : fX12_curtainCount N t = some (iI (gC S : Int)) := by
  unfold fX12_curtainCount
  rw [hR.2.2.2.2.2.2]
theorem r_promptCount (hR : RBo t.1 S) (w : WG S) : fX12_promptCount N t = some (iI ((gP S).length : Int)) := by
  unfold fX12_promptCount
  rw [hR.2.2.1.1]
theorem r_lotCount (hR : RBo t.1 S) (w : WG S) : fX12_lotCount N t = some (iI ((gL S).length : Int)) := by
  unfold fX12_lotCount
  rw [hR.2.2.2.1.1]
theorem r_billCount (hR : RBo t.1 S) (w : WG S) : fX12_billCount N t = some (iI ((gB S).1.length : Int)) := by
  unfold fX12_billCount
  rw [hR.2.2.2.2.1.1]
theorem r_entryCount (hR : RBo t.1 S) (w : WG S) : fX12_entryCount N t = some (iI (jK (gJ S) : Int)) := by
  unfold fX12_entryCount
  rw [c_keptCount N hR.2.1 w.2.1.1, xcall_s]
theorem r_costumeCount (hN : 2000 ≤ N) (hR : RBo t.1 S) (w : WG S) : fX12_costumeCount N t = some (iI (lSum (gL S))) := by
  unfold fX12_costumeCount
  rw [c_costumes hN hR.2.2.2.1 w.fr.2.2.1, xcall_s]
theorem r_openTotal (hN : 2000 ≤ N) (hR : RBo t.1 S) (w : WG S) : fX12_openTotal N t = some (iI (bSum (gB S).1)) := by
  unfold fX12_openTotal
  rw [c_total hN hR.2.2.2.2.1 w.2.2.2.2.1, xcall_s]
theorem r_sumOfDebits (hN : 2000 ≤ N) (hR : RBo t.1 S) (w : WG S) : fX12_sumOfDebits N t = some (iL (sumN (aD (gA S)) (aN (gA S)))) := by
  unfold fX12_sumOfDebits
  rw [c_allDebits hN hR.1 w.wa, xcall_s]
theorem r_sumOfCredits (hN : 2000 ≤ N) (hR : RBo t.1 S) (w : WG S) : fX12_sumOfCredits N t = some (iL (sumN (aC (gA S)) (aN (gA S)))) := by
  unfold fX12_sumOfCredits
  rw [c_allCredits hN hR.1 w.wa, xcall_s]
theorem r_profit (hN : 2000 ≤ N) (hR : RBo t.1 S) (w : WG S) : fX12_profit N t = some (iL (sumN (gainAt (gA S)) (aN (gA S)))) := by
  unfold fX12_profit
  rw [c_gain hN hR.1 w.wa, xcall_s]
theorem r_kind (hR : RBo t.1 S) (w : WG S) {z : Int} (hz : -2147483648 ≤ z ∧ z < 2147483648) : fX12_kind N (iI z) t = some (if 0 ≤ z ∧ z < aN (gA S) then (0, iI (aK (gA S) z.toNat)) else (1, 0)) := by
  have hc := c_checkAcc N hR w hz
  unfold fX12_kind
  by_cases h : 0 ≤ z ∧ z < aN (gA S)
  · rw [if_pos h] at hc
    have e1 := c_kindAt N hR.1 w.wa (i := z.toNat) (by omega)
    rw [Int.toNat_of_nonneg h.1] at e1
    have hk := w.wa.rk (i := z.toNat) (by omega)
    rw [if_pos h, hc, xcall_s]
    show xcall _ _ = _
    rw [e1, xcall_s, xnz_of (xnar_char (by omega) (by omega))]
  · rw [if_neg h] at hc
    rw [if_neg h, hc, xcall_s]
    rfl
theorem r_debits (hR : RBo t.1 S) (w : WG S) {z : Int} (hz : -2147483648 ≤ z ∧ z < 2147483648) : fX12_debits N (iI z) t = some (if 0 ≤ z ∧ z < aN (gA S) then (0, iL (aD (gA S) z.toNat)) else (1, 0)) := by
  have hc := c_checkAcc N hR w hz
  unfold fX12_debits
  by_cases h : 0 ≤ z ∧ z < aN (gA S)
  · rw [if_pos h] at hc
    have e1 := c_debitsAt N hR.1 w.wa (i := z.toNat) (by omega)
    rw [Int.toNat_of_nonneg h.1] at e1
    rw [if_pos h, hc, xcall_s]
    show xcall _ _ = _
    rw [e1, xcall_s]
  · rw [if_neg h] at hc
    rw [if_neg h, hc, xcall_s]
    rfl
theorem r_credits (hR : RBo t.1 S) (w : WG S) {z : Int} (hz : -2147483648 ≤ z ∧ z < 2147483648) : fX12_credits N (iI z) t = some (if 0 ≤ z ∧ z < aN (gA S) then (0, iL (aC (gA S) z.toNat)) else (1, 0)) := by
  have hc := c_checkAcc N hR w hz
  unfold fX12_credits
  by_cases h : 0 ≤ z ∧ z < aN (gA S)
  · rw [if_pos h] at hc
    have e1 := c_creditsAt N hR.1 w.wa (i := z.toNat) (by omega)
    rw [Int.toNat_of_nonneg h.1] at e1
    rw [if_pos h, hc, xcall_s]
    show xcall _ _ = _
    rw [e1, xcall_s]
  · rw [if_neg h] at hc
    rw [if_neg h, hc, xcall_s]
    rfl
theorem r_balance (hR : RBo t.1 S) (w : WG S) {z : Int} (hz : -2147483648 ≤ z ∧ z < 2147483648) : fX12_balance N (iI z) t = some (if 0 ≤ z ∧ z < aN (gA S) then (0, iL (bal (gA S) z.toNat)) else (1, 0)) := by
  have hc := c_checkAcc N hR w hz
  unfold fX12_balance
  by_cases h : 0 ≤ z ∧ z < aN (gA S)
  · rw [if_pos h] at hc
    have e1 := c_bal N hR.1 w.wa (i := z.toNat) (by omega)
    rw [Int.toNat_of_nonneg h.1] at e1
    rw [if_pos h, hc, xcall_s]
    show xcall _ _ = _
    rw [e1, xcall_s]
  · rw [if_neg h] at hc
    rw [if_neg h, hc, xcall_s]
    rfl
theorem r_treeBalance (hN : 2000 ≤ N) (hR : RBo t.1 S) (w : WG S) {z : Int} (hz : -2147483648 ≤ z ∧ z < 2147483648) : fX12_treeBalance N (iI z) t = some (if 0 ≤ z ∧ z < aN (gA S) then (0, iL (sTreeSum (gA S) z.toNat)) else (1, 0)) := by
  have hc := c_checkAcc N hR w hz
  unfold fX12_treeBalance
  by_cases h : 0 ≤ z ∧ z < aN (gA S)
  · rw [if_pos h] at hc
    have e1 := c_sumOfTree hN hR.1 w.wa (t := z.toNat) (by omega)
    rw [Int.toNat_of_nonneg h.1] at e1
    rw [if_pos h, hc, xcall_s]
    show xcall _ _ = _
    rw [e1, xcall_s]
  · rw [if_neg h] at hc
    rw [if_neg h, hc, xcall_s]
    rfl
theorem r_treeBalanceByParents (hN : 2000 ≤ N) (hR : RBo t.1 S) (w : WG S) {z : Int} (hz : -2147483648 ≤ z ∧ z < 2147483648) : fX12_treeBalanceByParents N (iI z) t = some (if 0 ≤ z ∧ z < aN (gA S) then (0, iL (sTreeSum (gA S) z.toNat)) else (1, 0)) := by
  have hc := c_checkAcc N hR w hz
  unfold fX12_treeBalanceByParents
  by_cases h : 0 ≤ z ∧ z < aN (gA S)
  · rw [if_pos h] at hc
    have e1 := c_sumOfThoseBelow hN hR.1 w.wa (t := z.toNat) (by omega)
    rw [Int.toNat_of_nonneg h.1] at e1
    rw [if_pos h, hc, xcall_s]
    show xcall _ _ = _
    rw [e1, xcall_s]
  · rw [if_neg h] at hc
    rw [if_neg h, hc, xcall_s]
    rfl
theorem r_treeSize (hN : 2000 ≤ N) (hR : RBo t.1 S) (w : WG S) {z : Int} (hz : -2147483648 ≤ z ∧ z < 2147483648) : fX12_treeSize N (iI z) t = some (if 0 ≤ z ∧ z < aN (gA S) then (0, iI (sTreeSize (gA S) z.toNat)) else (1, 0)) := by
  have hc := c_checkAcc N hR w hz
  unfold fX12_treeSize
  by_cases h : 0 ≤ z ∧ z < aN (gA S)
  · rw [if_pos h] at hc
    have e1 := c_sizeOfTree hN hR.1 w.wa (t := z.toNat) (by omega)
    rw [Int.toNat_of_nonneg h.1] at e1
    rw [if_pos h, hc, xcall_s]
    show xcall _ _ = _
    rw [e1, xcall_s]
  · rw [if_neg h] at hc
    rw [if_neg h, hc, xcall_s]
    rfl
theorem r_parent (hR : RBo t.1 S) (w : WG S) {z : Int} (hz : -2147483648 ≤ z ∧ z < 2147483648) : fX12_parent N (iI z) t = some (if 0 ≤ z ∧ z < aN (gA S) then (if aP (gA S) z.toNat = -1 then (2, 0) else (0, iI (aP (gA S) z.toNat))) else (1, 0)) := by
  have hc := c_checkAcc N hR w hz
  have hn := w.1.2.1
  unfold fX12_parent
  by_cases h : 0 ≤ z ∧ z < aN (gA S)
  · rw [if_pos h] at hc
    have hk := w.wa.at (i := z.toNat) (by omega)
    have e1 := c_parentAt N hR.1 w.wa (i := z.toNat) (by omega)
    rw [Int.toNat_of_nonneg h.1] at e1
    rw [if_pos h, hc, xcall_s]
    show xcall _ _ = _
    by_cases hp : aP (gA S) z.toNat = -1
    · rw [e1, xcall_s, hp]
      rfl
    · rw [e1, xcall_s, if_neg, if_neg hp]
      rw [show (-1 : Int32) = iI (-1) from rfl, i_eq (by omega) (by omega) (by omega) (by omega)]
      exact hp
  · rw [if_neg h] at hc
    rw [if_neg h, hc, xcall_s]
    rfl
theorem r_debitOf (hR : RBo t.1 S) (w : WG S) {z : Int} (hz : -2147483648 ≤ z ∧ z < 2147483648) : fX12_debitOf N (iI z) t = some (if (jN (gJ S) : Int) - jK (gJ S) ≤ z ∧ z < jN (gJ S) then (0, iI (jD (gJ S) z.toNat)) else (2, 0)) := by
  have hc := c_checkEnt N hR w hz
  have hk2 : jK (gJ S) ≤ jN (gJ S) := by unfold jK; omega
  unfold fX12_debitOf
  by_cases h : (jN (gJ S) : Int) - jK (gJ S) ≤ z ∧ z < jN (gJ S)
  · have e1 := c_jdeb N hR.2.1 w.2.1.1 (e := z.toNat) (by omega) (by omega)
    rw [Int.toNat_of_nonneg (by omega)] at e1
    rw [if_pos h] at hc
    rw [if_pos h, hc, xcall_s]
    show xcall _ _ = _
    rw [e1, xcall_s]
  · rw [if_neg h] at hc
    rw [if_neg h, hc, xcall_s]
    rfl
theorem r_creditOf (hR : RBo t.1 S) (w : WG S) {z : Int} (hz : -2147483648 ≤ z ∧ z < 2147483648) : fX12_creditOf N (iI z) t = some (if (jN (gJ S) : Int) - jK (gJ S) ≤ z ∧ z < jN (gJ S) then (0, iI (jC (gJ S) z.toNat)) else (2, 0)) := by
  have hc := c_checkEnt N hR w hz
  have hk2 : jK (gJ S) ≤ jN (gJ S) := by unfold jK; omega
  unfold fX12_creditOf
  by_cases h : (jN (gJ S) : Int) - jK (gJ S) ≤ z ∧ z < jN (gJ S)
  · have e1 := c_jcre N hR.2.1 w.2.1.1 (e := z.toNat) (by omega) (by omega)
    rw [Int.toNat_of_nonneg (by omega)] at e1
    rw [if_pos h] at hc
    rw [if_pos h, hc, xcall_s]
    show xcall _ _ = _
    rw [e1, xcall_s]
  · rw [if_neg h] at hc
    rw [if_neg h, hc, xcall_s]
    rfl
theorem r_hourOf (hR : RBo t.1 S) (w : WG S) {z : Int} (hz : -2147483648 ≤ z ∧ z < 2147483648) : fX12_hourOf N (iI z) t = some (if (jN (gJ S) : Int) - jK (gJ S) ≤ z ∧ z < jN (gJ S) then (0, iI (jH (gJ S) z.toNat)) else (2, 0)) := by
  have hc := c_checkEnt N hR w hz
  have hk2 : jK (gJ S) ≤ jN (gJ S) := by unfold jK; omega
  unfold fX12_hourOf
  by_cases h : (jN (gJ S) : Int) - jK (gJ S) ≤ z ∧ z < jN (gJ S)
  · have e1 := c_jhour N hR.2.1 w.2.1.1 (e := z.toNat) (by omega) (by omega)
    rw [Int.toNat_of_nonneg (by omega)] at e1
    rw [if_pos h] at hc
    rw [if_pos h, hc, xcall_s]
    show xcall _ _ = _
    rw [e1, xcall_s]
  · rw [if_neg h] at hc
    rw [if_neg h, hc, xcall_s]
    rfl
theorem r_amountOf (hR : RBo t.1 S) (w : WG S) {z : Int} (hz : -2147483648 ≤ z ∧ z < 2147483648) : fX12_amountOf N (iI z) t = some (if (jN (gJ S) : Int) - jK (gJ S) ≤ z ∧ z < jN (gJ S) then (0, iL (jA (gJ S) z.toNat)) else (2, 0)) := by
  have hc := c_checkEnt N hR w hz
  have hk2 : jK (gJ S) ≤ jN (gJ S) := by unfold jK; omega
  unfold fX12_amountOf
  by_cases h : (jN (gJ S) : Int) - jK (gJ S) ≤ z ∧ z < jN (gJ S)
  · have e1 := c_jamt N hR.2.1 w.2.1.1 (e := z.toNat) (by omega) (by omega)
    rw [Int.toNat_of_nonneg (by omega)] at e1
    rw [if_pos h] at hc
    rw [if_pos h, hc, xcall_s]
    show xcall _ _ = _
    rw [e1, xcall_s]
  · rw [if_neg h] at hc
    rw [if_neg h, hc, xcall_s]
    rfl
theorem r_isReversed (hR : RBo t.1 S) (w : WG S) {z : Int} (hz : -2147483648 ≤ z ∧ z < 2147483648) : fX12_isReversed N (iI z) t = some (if (jN (gJ S) : Int) - jK (gJ S) ≤ z ∧ z < jN (gJ S) then (0, iB (decide (jM (gJ S) z.toNat = 1))) else (2, 0)) := by
  have hc := c_checkEnt N hR w hz
  have hk2 : jK (gJ S) ≤ jN (gJ S) := by unfold jK; omega
  unfold fX12_isReversed
  by_cases h : (jN (gJ S) : Int) - jK (gJ S) ≤ z ∧ z < jN (gJ S)
  · have e1 := c_jwas N hR.2.1 w.2.1 (e := z.toNat) (by omega) (by omega)
    rw [Int.toNat_of_nonneg (by omega)] at e1
    rw [if_pos h] at hc
    rw [if_pos h, hc, xcall_s]
    show xcall _ _ = _
    rw [e1, xcall_s, xnz_of xnar_b]
  · rw [if_neg h] at hc
    rw [if_neg h, hc, xcall_s]
    rfl
theorem r_entryAt (hR : RBo t.1 S) (w : WG S) {z : Int} (hz : -2147483648 ≤ z ∧ z < 2147483648) : fX12_entryAt N (iI z) t = some (if 0 ≤ z ∧ z ≤ (jK (gJ S) : Int) - 1 then (0, iI ((jN (gJ S) : Int) - jK (gJ S) + z)) else (2, 0)) := by
  have hk := jK_le (gJ S)
  have hj := w.2.1.1
  unfold fX12_entryAt
  rw [c_keptCount N hR.2.1 hj, xcall_s, show (1 : Int32) = iI 1 from rfl, i_sub, show (0 : Int32) = iI 0 from rfl, c_within N hz (by omega) (by omega), xcall_s]
  by_cases h : 0 ≤ z ∧ z ≤ (jK (gJ S) : Int) - 1
  · rw [decide_eq_true h, if_pos h, if_neg (show ¬ iB true = iI 0 by decide), c_idAt N hR.2.1 hj, xcall_s]
  · rw [decide_eq_false h, if_neg h]
    rfl
theorem r_hoursUntilPrompt (hR : RBo t.1 S) (w : WG S) {z : Int} (hz : -2147483648 ≤ z ∧ z < 2147483648) : fX12_hoursUntilPrompt N (iI z) t = some (if 0 ≤ z ∧ z < (gP S).length then (0, iI ((gP S)[z.toNat]?.getD (0, 0, 0, 0, 0, 0)).2.2.2.2.2) else (1, 0)) := by
  have hc := c_checkPro N hR w hz
  have hl := w.fr.2.1
  unfold fX12_hoursUntilPrompt
  by_cases h : 0 ≤ z ∧ z < (gP S).length
  · rw [if_pos h] at hc
    obtain ⟨x, hx⟩ : ∃ x, (gP S)[z.toNat]? = some x := ⟨_, List.getElem?_eq_getElem (by omega)⟩
    obtain ⟨g1, g2, g3, g4, g5, g6⟩ := hR.2.2.1.2 z.toNat x hx
    have e1 := c_phrs N (i := z.toNat) (by omega) g5
    rw [Int.toNat_of_nonneg h.1] at e1
    rw [if_pos h, hc, xcall_s, hx]
    show xcall _ _ = _
    rw [e1, xcall_s]
    rfl
  · rw [if_neg h] at hc
    rw [if_neg h, hc, xcall_s]
    rfl
theorem r_timesLeft (hR : RBo t.1 S) (w : WG S) {z : Int} (hz : -2147483648 ≤ z ∧ z < 2147483648) : fX12_timesLeft N (iI z) t = some (if 0 ≤ z ∧ z < (gP S).length then (0, iI ((gP S)[z.toNat]?.getD (0, 0, 0, 0, 0, 0)).2.2.2.2.1) else (1, 0)) := by
  have hc := c_checkPro N hR w hz
  have hl := w.fr.2.1
  unfold fX12_timesLeft
  by_cases h : 0 ≤ z ∧ z < (gP S).length
  · rw [if_pos h] at hc
    obtain ⟨x, hx⟩ : ∃ x, (gP S)[z.toNat]? = some x := ⟨_, List.getElem?_eq_getElem (by omega)⟩
    obtain ⟨g1, g2, g3, g4, g5, g6⟩ := hR.2.2.1.2 z.toNat x hx
    have e1 := c_ptim N (i := z.toNat) (by omega) g6
    rw [Int.toNat_of_nonneg h.1] at e1
    rw [if_pos h, hc, xcall_s, hx]
    show xcall _ _ = _
    rw [e1, xcall_s]
    rfl
  · rw [if_neg h] at hc
    rw [if_neg h, hc, xcall_s]
    rfl
theorem r_costOf (hN : 2000 ≤ N) (hR : RBo t.1 S) (w : WG S) {z : Int} (hz : -2147483648 ≤ z ∧ z < 2147483648) : fX12_costOf N (iI z) t = some (if ¬ (1 ≤ z ∧ z ≤ 20) then (3, 0) else if lSum (gL S) < z then (4, 0) else (0, iI (sCost z (gL S)))) := by
  have hf := c_fCount hN hR.2.2.2.1 w.2.2.2.1 hz
  unfold fX12_costOf
  rw [hf, xcall_s]
  by_cases h : 1 ≤ z ∧ z ≤ 20
  · rw [if_neg (show ¬ ¬ (1 ≤ z ∧ z ≤ 20) from fun hh => hh h), if_neg (show ¬ ¬ (1 ≤ z ∧ z ≤ 20) from fun hh => hh h)]
    by_cases h2 : lSum (gL S) < z
    · rw [if_pos h2, if_pos h2, c_refuse N 4 (by omega), xcall_s]
      rfl
    · have e1 := c_costByLots hN hR.2.2.2.1 w.2.2.2.1 (k := z) (by omega)
      skip
      rw [if_neg h2, if_neg h2, c_refuse N 0 (by omega), xcall_s]
      show xcall _ _ = _
      rw [e1, xcall_s]
  · rw [if_pos h, if_pos h, c_refuse N 3 (by omega), xcall_s]
    rfl
theorem r_costByCostumes (hN : 2000 ≤ N) (hR : RBo t.1 S) (w : WG S) {z : Int} (hz : -2147483648 ≤ z ∧ z < 2147483648) : fX12_costByCostumes N (iI z) t = some (if ¬ (1 ≤ z ∧ z ≤ 20) then (3, 0) else if lSum (gL S) < z then (4, 0) else (0, iI (sCost z (gL S)))) := by
  have hf := c_fCount hN hR.2.2.2.1 w.2.2.2.1 hz
  unfold fX12_costByCostumes
  rw [hf, xcall_s]
  by_cases h : 1 ≤ z ∧ z ≤ 20
  · rw [if_neg (show ¬ ¬ (1 ≤ z ∧ z ≤ 20) from fun hh => hh h), if_neg (show ¬ ¬ (1 ≤ z ∧ z ≤ 20) from fun hh => hh h)]
    by_cases h2 : lSum (gL S) < z
    · rw [if_pos h2, if_pos h2, c_refuse N 4 (by omega), xcall_s]
      rfl
    · have e1 := c_costOneByOne hN hR.2.2.2.1 w.2.2.2.1 (k := z.toNat) (by omega)
      rw [Int.toNat_of_nonneg (by omega)] at e1
      rw [if_neg h2, if_neg h2, c_refuse N 0 (by omega), xcall_s]
      show xcall _ _ = _
      rw [e1, xcall_s]
  · rw [if_pos h, if_pos h, c_refuse N 3 (by omega), xcall_s]
    rfl
theorem r_billAt (hR : RBo t.1 S) (w : WG S) {z : Int} (hz : -2147483648 ≤ z ∧ z < 2147483648) : fX12_billAt N (iI z) t = some (if 0 ≤ z ∧ z ≤ ((gB S).1.length : Int) - 1 then (0, iI ((gB S).1[z.toNat]?.getD (0, 0)).1) else (2, 0)) := by
  have hl := w.fr.2.2.2
  unfold fX12_billAt
  rw [hR.2.2.2.2.1.1, show (1 : Int32) = iI 1 from rfl, i_sub, show (0 : Int32) = iI 0 from rfl, c_within N hz (by omega) (by omega), xcall_s]
  by_cases h : 0 ≤ z ∧ z ≤ ((gB S).1.length : Int) - 1
  · rw [decide_eq_true h, if_pos h]
    obtain ⟨x, hx⟩ : ∃ x, (gB S).1[z.toNat]? = some x := ⟨_, List.getElem?_eq_getElem (by omega)⟩
    have e1 := c_bIdAt N hR.2.2.2.2.1 w.2.2.2.2.1 hx
    rw [Int.toNat_of_nonneg h.1] at e1
    rw [if_neg (show ¬ iB true = iI 0 by decide), e1, xcall_s, hx]
    rfl
  · rw [decide_eq_false h, if_neg h]
    rfl
theorem r_openAmount (hN : 2000 ≤ N) (hR : RBo t.1 S) (w : WG S) {z : Int} (hz : -2147483648 ≤ z ∧ z < 2147483648) : fX12_openAmount N (iI z) t = some (match plc z (gB S).1 with | none => (2, 0) | some i => (0, iI ((gB S).1[i]?.getD (0, 0)).2)) := by
  have hl := w.fr.2.2.2
  unfold fX12_openAmount
  rw [c_checkedPlace hN hR w hz, xcall_s]
  cases h : plc z (gB S).1 with
  | none =>
    have e : plcI z (gB S).1 = -1 := by unfold plcI; rw [h]
    rw [if_pos e]
    rfl
  | some i =>
    obtain ⟨x, hx, _⟩ := plc_lt h
    have e : plcI z (gB S).1 = (i : Int) := by unfold plcI; rw [h]
    have := lt_len hx
    rw [if_neg (show ¬ plcI z (gB S).1 = -1 by omega), e]
    show xcall (fX2_amountAt N (iI (i : Int)) t.1.2.2.2.2.1) _ = _
    rw [c_bAmountAt N hR.2.2.2.2.1 w.2.2.2.2.1 hx, xcall_s]
    dsimp only
    rw [hx]
    rfl
theorem r_isMatched (hN : 2000 ≤ N) (hR : RBo t.1 S) (w : WG S) {m : Int} (hm : -2147483648 ≤ m ∧ m < 2147483648) (h : 1 ≤ m ∧ m ≤ 999) : ∃ u, fX12_isMatched N (iI m) t = some (0, iB (decide (chS S m ≠ 0)), Thls3 t u) := by
  have hc := c_checkAmt N hm
  unfold fX12_isMatched
  rw [hc, xcall_s, if_pos h]
  obtain ⟨u1, e1⟩ := c_canReach (t := t.2.2.2.1) hN hR.2.2.2.2.1 w.2.2.2.2.1 (m := m.toNat) (by omega)
  rw [Int.toNat_of_nonneg (by omega)] at e1
  refine ⟨u1, ?_⟩
  show xcall _ _ = _
  rw [e1, xcall_s, xnz_of xnar_b]
  rfl
theorem r_isMatchedBySets (hN : 2000 ≤ N) (hR : RBo t.1 S) (w : WG S) {m : Int} (hm : -2147483648 ≤ m ∧ m < 2147483648) (h : 1 ≤ m ∧ m ≤ 999) : ∃ u, fX12_isMatchedBySets N (iI m) t = some (0, iB (decide (chS S m ≠ 0)), Thls3 t u) := by
  have hc := c_checkAmt N hm
  unfold fX12_isMatchedBySets
  rw [hc, xcall_s, if_pos h]
  obtain ⟨u2, e2⟩ := c_hasSet (t := t.2.2.2.1) hN hR.2.2.2.2.1 w.2.2.2.2.1 h
  refine ⟨u2, ?_⟩
  show xcall _ _ = _
  rw [e2, xcall_s, xnz_of xnar_b]
  rfl
theorem r_matchSize (hN : 2000 ≤ N) (hR : RBo t.1 S) (w : WG S) {m : Int} (hm : -2147483648 ≤ m ∧ m < 2147483648) (h : 1 ≤ m ∧ m ≤ 999) : ∃ u, fX12_matchSize N (iI m) t = some (if chS S m = 0 then (2, 0, Thls3 t u) else (0, iI (pop 12 (chS S m)), Thls3 t u)) := by
  have hc := c_checkAmt N hm
  have hlt := chS_lt w m
  unfold fX12_matchSize
  rw [hc, xcall_s, if_pos h]
  obtain ⟨u, e1⟩ := c_chosenSet (t := t.2.2.2.1) hN hR.2.2.2.2.1 w.2.2.2.2.1 h
  refine ⟨u, ?_⟩
  show xcall _ _ = _
  rw [e1, xcall_s]
  show (if iI (chS S m : Int) = 0 then _ else _) = _
  by_cases h2 : chS S m = 0
  · rw [h2]
    rfl
  · have hne : ¬ iI (chS S m : Int) = 0 := by rw [i_lit, i_eq (by omega) (by omega) (by omega) (by omega)]; omega
    rw [if_neg hne, if_neg h2]
    show xcall (fJ6_bitCount_0f7a4 N (iI (chS S m : Int))) _ = _
    rw [c_bitCount N (by omega), xcall_s]
theorem r_isInMatch (hN : 2000 ≤ N) (hR : RBo t.1 S) (w : WG S) {z : Int} (hz : -2147483648 ≤ z ∧ z < 2147483648) {m : Int} (hm : -2147483648 ≤ m ∧ m < 2147483648) (h1 : 1 ≤ m ∧ m ≤ 999) : ∃ u, fX12_isInMatch N (iI z) (iI m) t = some (match plc z (gB S).1 with | none => (2, 0, Thls3 t u) | some i => if chS S m = 0 then (4, 0, Thls3 t u) else (0, iB ((chS S m).testBit i), Thls3 t u)) := by
  have hl := w.fr.2.2.2
  have hc := c_checkAmt N hm
  have hlt := chS_lt w m
  unfold fX12_isInMatch
  rw [c_checkedPlace hN hR w hz, xcall_s]
  cases h : plc z (gB S).1 with
  | none =>
    have e : plcI z (gB S).1 = -1 := by unfold plcI; rw [h]
    rw [if_pos e]
    exact ⟨t.2.2.2.1, rfl⟩
  | some i =>
    obtain ⟨x, hx, _⟩ := plc_lt h
    have e : plcI z (gB S).1 = (i : Int) := by unfold plcI; rw [h]
    have hi := lt_len hx
    rw [if_neg (show ¬ plcI z (gB S).1 = -1 by omega), e]
    obtain ⟨u, e1⟩ := c_chosenSet (t := t.2.2.2.1) hN hR.2.2.2.2.1 w.2.2.2.2.1 h1
    refine ⟨u, ?_⟩
    show xcall (fX12_checkAmount N (iI m)) _ = _
    rw [hc, xcall_s, if_pos h1]
    show xcall (fX7_chosenSet N (iI m) t.2.2.2.1 t.1.2.2.2.2.1) _ = _
    rw [e1, xcall_s]
    show (if iI (chS S m : Int) = 0 then _ else _) = _
    dsimp only
    by_cases h2 : chS S m = 0
    · rw [h2]
      rfl
    · have hne2 : ¬ iI (chS S m : Int) = 0 := by rw [i_lit, i_eq (by omega) (by omega) (by omega) (by omega)]; omega
      rw [if_neg hne2, if_neg h2]
      show xcall (fX12_isInSet N (iI (i : Int)) (iI (chS S m : Int))) _ = _
      rw [c_isInSet N (by omega) (by omega), xcall_s, xnz_of xnar_b]
theorem r_isConsistent (hN : 2000 ≤ N) (hR : RBo t.1 S) (w : WG S) : ∃ u, fX12_isConsistent N t = some (iI 1, Thls3 t u) := by
  obtain ⟨u1, e1⟩ := c_waysAgree (t := t.2.2.2.1) hN hR.2.2.2.2.1 w.2.2.2.2.1 (m := 50) (by omega)
  obtain ⟨u2, e2⟩ := c_waysAgree (t := u1) hN hR.2.2.2.2.1 w.2.2.2.2.1 (m := 100) (by omega)
  refine ⟨u2, ?_⟩
  have hd := deb_rng w
  unfold fX12_isConsistent
  rw [c_allDebits hN hR.1 w.wa, xcall_s, c_allCredits hN hR.1 w.wa, xcall_s]
  unfold xjoin
  dsimp only
  have hcmp : lg_cmp (iL (sumN (aD (gA S)) (aN (gA S)))) (iL (sumN (aC (gA S)) (aN (gA S)))) = 0 := by
    show _ = iI 0
    rw [← w.1.2.2.2.1, l_cmp0 (by omega) (by omega) (by omega) (by omega)]
  rw [if_pos hcmp, c_treesAgree hN hR.1 w.wa, xcall_s, if_neg (show ¬ iI 1 = 0 by decide), c_costsAgree hN hR.2.2.2.1 w.2.2.2.1, xcall_s, if_neg (show ¬ iI 1 = 0 by decide), show (50 : Int32) = iI ((50 : Nat) : Int) from rfl, e1, xcall_s, if_neg (show ¬ iI 1 = 0 by decide), show (100 : Int32) = iI ((100 : Nat) : Int) from rfl, e2, xcall_s, if_neg (show ¬ iI 1 = 0 by decide), xnz_of (show xnar .boolean 1 = true by decide)]
  rfl
theorem r_byBalance (hN : 2000 ≤ N) (hR : RBo t.1 S) (w : WG S) {z : Int} (hz : -2147483648 ≤ z ∧ z < 2147483648) (k : Nat) (k1 : k < aN (gA S)) (k2 : sRank (gA S) k = z) (k3 : ∀ j, j < k → ¬ sRank (gA S) j = z) : fX12_accountByBalance N (iI z) t = some (0, iI (k : Int)) := by
  have hn := w.1.2.1
  have h1 := rk_rng (gA S) (m := aN (gA S)) k
  have h2 := rk_lt_n (gA S) k1
  have e : sRank (gA S) k = rk (gA S) (aN (gA S)) k := rfl
  unfold fX12_accountByBalance
  rw [hR.1.2.1, show (1 : Int32) = iI 1 from rfl, i_sub, show (0 : Int32) = iI 0 from rfl, c_within N hz (by omega) (by omega), xcall_s, decide_eq_true (show 0 ≤ z ∧ z ≤ (aN (gA S) : Int) - 1 by omega), if_neg (show ¬ iB true = iI 0 by decide), c_accountAtRank hN hR.1 w.wa hz k k3 k1 k2, xcall_s]
theorem r_cashIn (hN : 2000 ≤ N) (hR : RBo t.1 S) (w : WG S) {z : Int} (hz : -2147483648 ≤ z ∧ z < 2147483648) (h : 0 ≤ z ∧ z ≤ 24) : fX12_cashIn N (iI z) t = some (0, iL (bal (gA S) 0 + ntS z (gP S))) := by
  have hn := w.1.1
  have hn2 := w.1.2.1
  unfold fX12_cashIn
  rw [show (24 : Int32) = iI 24 from rfl, show (0 : Int32) = iI 0 from rfl, c_within N hz (by omega) (by omega), xcall_s, decide_eq_true h, if_neg (show ¬ iB true = iI 0 by decide)]
  have e1 : fX1_balanceAt N (iI 0) t.1.1 = some (iL (bal (gA S) 0)) := c_bal N hR.1 w.wa (i := 0) (by omega)
  rw [e1, xcall_s, c_netDebits hN hR.2.2.1 w.2.2.1 hn2 h, xcall_s, l_add]
theorem r_errorPosition (hR : RT t r W) (hw : WO a b W) : fX12_errorPosition N t = some (if oE W = -1 then (2, 0) else (0, iI (oE W))) := by
  obtain ⟨h1, h2, h3, h4, h5, h6, h7⟩ := hR
  have hr := hw.2.2.2.2.2.2.1
  unfold fX12_errorPosition
  rw [h6]
  by_cases h : oE W = -1
  · rw [h]
    rfl
  · have hne : ¬ iI (oE W) = -1 := by rw [show (-1 : Int32) = iI (-1) from rfl, i_eq (by omega) (by omega) (by omega) (by omega)]; omega
    rw [if_neg hne, if_neg h]
theorem r_failedCommand (hR : RT t r W) (hw : WO a b W) : fX12_failedCommand N t = some (if oF W = -1 then (2, 0) else (0, iI (oF W))) := by
  obtain ⟨h1, h2, h3, h4, h5, h6, h7⟩ := hR
  have hr := hw.2.2.2.2.2.2.2
  unfold fX12_failedCommand
  rw [h7]
  by_cases h : oF W = -1
  · rw [h]
    rfl
  · have hne : ¬ iI (oF W) = -1 := by rw [show (-1 : Int32) = iI (-1) from rfl, i_eq (by omega) (by omega) (by omega) (by omega)]; omega
    rw [if_neg hne, if_neg h]
theorem r_outputChar (hR : RT t r W) (hw : WO a b W) {i : Nat} {c : Int} (hc : (oO W)[i]? = some c) : fX12_outputChar N (iI (i : Int)) t = some (0, iI c) := by
  obtain ⟨h1, h2, h3, h4, ⟨h5, h5b⟩, h6, h7⟩ := hR
  have hr := hw.2.2.2.2.2.1
  have hi := lt_len hc
  unfold fX12_outputChar
  rw [h5, show (1 : Int32) = iI 1 from rfl, i_sub, show (0 : Int32) = iI 0 from rfl, c_within N (by omega) (by omega) (by omega), xcall_s]
  have hch := hr.2 c (List.mem_of_getElem? hc)
  rw [decide_eq_true (by omega), if_neg (show ¬ iB true = iI 0 by decide), xrd_at (k := i) (by rfl) (by omega) (by omega), h5b _ c hc, xnz_of (xnar_char hch.1 hch.2)]
theorem g_write (hN : 2000 ≤ N) (hR : RT t r W) (hw : WO a b W) {z : Int} (hz : -2147483648 ≤ z ∧ z < 2147483648) (h : (jN (gJ (oS W)) : Int) - jK (gJ (oS W)) ≤ z ∧ z < jN (gJ (oS W))) : ∃ t', fX12_writeEntry N (iI z) t = some (0, iI ((eTx z.toNat (jD (gJ (oS W)) z.toNat) (jC (gJ (oS W)) z.toNat) (jA (gJ (oS W)) z.toNat) (jM (gJ (oS W)) z.toNat)).length : Int), t') ∧ RT t' r (oS W, oH W, oV W, oT W, oE W, oF W, eTx z.toNat (jD (gJ (oS W)) z.toNat) (jC (gJ (oS W)) z.toNat) (jA (gJ (oS W)) z.toNat) (jM (gJ (oS W)) z.toNat)) ∧ WO a b (oS W, oH W, oV W, oT W, oE W, oF W, eTx z.toNat (jD (gJ (oS W)) z.toNat) (jC (gJ (oS W)) z.toNat) (jA (gJ (oS W)) z.toNat) (jM (gJ (oS W)) z.toNat)) := by
  have w := hw.1.1
  have hc := c_checkEnt N hR.1 w hz
  have hk := jK_le (gJ (oS W))
  have hk2 : jK (gJ (oS W)) ≤ jN (gJ (oS W)) := by unfold jK; omega
  have hj := w.2.1.1
  have q := w.2.1.2 z.toNat (by omega) (by omega)
  obtain ⟨q1, q2, q3, q4, q5, q6, q7, q8, q9, q10, q11⟩ := q
  have hn := w.1.2.1
  have hzn : ((z.toNat : Nat) : Int) = z := Int.toNat_of_nonneg (by omega)
  have l1 : (nmN z.toNat 8).length ≤ 6 := nm_len (k := 5) (by omega) (by omega)
  have l2 : (nmN (jD (gJ (oS W)) z.toNat).toNat 8).length ≤ 2 := nm_len (k := 1) (by omega) (by omega)
  have l3 : (nmN (jC (gJ (oS W)) z.toNat).toNat 8).length ≤ 2 := nm_len (k := 1) (by omega) (by omega)
  have l4 : (nmN (jA (gJ (oS W)) z.toNat).toNat 8).length ≤ 9 := nm_len (k := 8) (by omega) (by omega)
  obtain ⟨t1, a1, b1, d1⟩ := c_putNumber hN (v := z.toNat) (by omega) (t := Thls6 t 0) (O := []) ⟨rfl, fun i x hx => nil_at hx⟩ (by simp)
  rw [hzn] at a1
  obtain ⟨t2, a2, b2, d2⟩ := c_putSign N b1 (by simp only [List.nil_append]; omega) (c := 58) (by omega)
  obtain ⟨t3, a3, b3, d3⟩ := c_putNumber hN (v := (jD (gJ (oS W)) z.toNat).toNat) (by omega) b2 (by simp only [List.nil_append, List.length_append, List.length_cons, List.length_nil]; omega)
  obtain ⟨t4, a4, b4, d4⟩ := c_putSign N b3 (by simp only [List.nil_append, List.length_append, List.length_cons, List.length_nil]; omega) (c := 60) (by omega)
  obtain ⟨t5, a5, b5, d5⟩ := c_putNumber hN (v := (jC (gJ (oS W)) z.toNat).toNat) (by omega) b4 (by simp only [List.nil_append, List.length_append, List.length_cons, List.length_nil]; omega)
  obtain ⟨t6, a6, b6, d6⟩ := c_putSign N b5 (by simp only [List.nil_append, List.length_append, List.length_cons, List.length_nil]; omega) (c := 61) (by omega)
  obtain ⟨t7, a7, b7, d7⟩ := c_putNumber hN (v := (jA (gJ (oS W)) z.toNat).toNat) (by omega) b6 (by simp only [List.nil_append, List.length_append, List.length_cons, List.length_nil]; omega)
  obtain ⟨t8, a8, b8, d8⟩ := c_putSign N b7 (by simp only [List.nil_append, List.length_append, List.length_cons, List.length_nil]; omega) (c := 33) (by omega)
  rw [Int.toNat_of_nonneg (by omega)] at a3 a5 a7
  have hd : sO t (Thls6 t 0) := ⟨t.2.2.2.2.2.1, 0, rfl⟩
  have D2 := (hd.tr d1).tr d2
  have D4 := (D2.tr d3).tr d4
  have D6 := (D4.tr d5).tr d6
  have D7 := D6.tr d7
  have J : ∀ {t' : ThlS}, sO t t' → RJ t'.1.2.1 (gJ (oS W)) := fun {t'} h => by
    obtain ⟨f, x, e⟩ := h
    subst e
    exact hR.1.2.1
  have e1 := c_jdeb N (J D2) hj (e := z.toNat) (by omega) (by omega)
  have e2 := c_jcre N (J D4) hj (e := z.toNat) (by omega) (by omega)
  have e3 := c_jamt N (J D6) hj (e := z.toNat) (by omega) (by omega)
  have e4 := c_jwas N (J D7) w.2.1 (e := z.toNat) (by omega) (by omega)
  rw [hzn] at e1 e2 e3 e4
  have cls : fX12_writeEntry N (iI z) t = if iB (decide (jM (gJ (oS W)) z.toNat = 1)) = 0 then some ((0 : Nat), t7.2.2.2.2.2.2.1, t7) else xcall (fX12_putSign N 33 t7) fun q15 => some ((0 : Nat), q15.2.2.2.2.2.2.1, q15) := by
    unfold fX12_writeEntry xjoin
    dsimp only
    rw [hc, if_pos h, xcall_s]
    show xcall (fX12_putNumber N ((iI z).toInt64) (Thls6 t 0)) _ = _
    rw [i_toL (by omega) (by omega), a1, xcall_s, show (58 : Int32) = iI 58 from rfl, a2, xcall_s, e1, xcall_s, i_toL (by omega) (by omega), a3, xcall_s, show (60 : Int32) = iI 60 from rfl, a4, xcall_s, e2, xcall_s, i_toL (by omega) (by omega), a5, xcall_s, show (61 : Int32) = iI 61 from rfl, a6, xcall_s, e3, xcall_s, a7, xcall_s, e4, xcall_s]
  have c1 : ∀ v, ∀ c ∈ nmN v 8, isCh c := fun v c hc => by
    have := nm_ch v 8 c hc
    unfold isCh
    omega
  have c2 : ∀ x : Int, 0 ≤ x ∧ x < 128 → ∀ c ∈ [x], isCh c := fun x hx c hc => by
    simp at hc
    unfold isCh
    omega
  have ap : ∀ {L M : List Int}, (∀ c ∈ L, isCh c) → (∀ c ∈ M, isCh c) → ∀ c ∈ L ++ M, isCh c := fun {L M} h1 h2 c hc => by
    rcases List.mem_append.mp hc with h | h
    · exact h1 c h
    · exact h2 c h
  have C7 := ap (ap (ap (ap (ap (ap (ap (fun c (hc : c ∈ ([] : List Int)) => (List.not_mem_nil hc).elim) (c1 z.toNat)) (c2 58 (by omega))) (c1 (jD (gJ (oS W)) z.toNat).toNat)) (c2 60 (by omega))) (c1 (jC (gJ (oS W)) z.toNat).toNat)) (c2 61 (by omega))) (c1 (jA (gJ (oS W)) z.toNat).toNat)
  by_cases hm : jM (gJ (oS W)) z.toNat = 1
  · have eO : eTx z.toNat (jD (gJ (oS W)) z.toNat) (jC (gJ (oS W)) z.toNat) (jA (gJ (oS W)) z.toNat) (jM (gJ (oS W)) z.toNat) = ([] ++ nmN z.toNat 8 ++ [58] ++ nmN (jD (gJ (oS W)) z.toNat).toNat 8 ++ [60] ++ nmN (jC (gJ (oS W)) z.toNat).toNat 8 ++ [61] ++ nmN (jA (gJ (oS W)) z.toNat).toNat 8) ++ [33] := by
      unfold eTx
      rw [if_pos hm, List.nil_append]
    rw [eO]
    refine ⟨t8, ?_, (D7.tr d8).rt hR b8, ⟨hw.1, hw.2.1, hw.2.2.1, hw.2.2.2.1, hw.2.2.2.2.1, ⟨?_, ap C7 (c2 33 (by omega))⟩, hw.2.2.2.2.2.2⟩⟩
    · rw [cls, decide_eq_true hm, if_neg (show ¬ iB true = 0 by decide), show (33 : Int32) = iI 33 from rfl, a8, xcall_s, b8.1]
    · simp only [oO, List.nil_append, List.length_append, List.length_cons, List.length_nil]
      omega
  · have eO : eTx z.toNat (jD (gJ (oS W)) z.toNat) (jC (gJ (oS W)) z.toNat) (jA (gJ (oS W)) z.toNat) (jM (gJ (oS W)) z.toNat) = [] ++ nmN z.toNat 8 ++ [58] ++ nmN (jD (gJ (oS W)) z.toNat).toNat 8 ++ [60] ++ nmN (jC (gJ (oS W)) z.toNat).toNat 8 ++ [61] ++ nmN (jA (gJ (oS W)) z.toNat).toNat 8 := by
      unfold eTx
      rw [if_neg hm, List.nil_append, List.append_nil]
    rw [eO]
    refine ⟨t7, ?_, D7.rt hR b7, ⟨hw.1, hw.2.1, hw.2.2.1, hw.2.2.2.1, hw.2.2.2.2.1, ⟨?_, C7⟩, hw.2.2.2.2.2.2⟩⟩
    · rw [cls, decide_eq_false hm, if_pos (show iB false = 0 by decide), b7.1]
    · simp only [oO, List.nil_append, List.length_append, List.length_cons, List.length_nil]
      omega
theorem r_meanPrice (hN : 2000 ≤ N) (hR : RBo t.1 S) (w : WG S) (h : lSum (gL S) ≠ 0) : fX12_meanPrice N t = some (0, FP.ddiv (FP.i2d (iI (sCost (lSum (gL S)) (gL S)))) (FP.i2d (iI (lSum (gL S))))) := by
  have hl := w.fr.2.2.1
  have hr := lSum_rng w.2.2.2.1
  have e1 := c_costumes hN hR.2.2.2.1 hl
  have hne : iI (lSum (gL S)) ≠ 0 := fun hh => h (by rw [show (0 : Int32) = iI 0 from rfl, i_eq (by omega) (by omega) (by omega) (by omega)] at hh; exact hh)
  have e3 := c_costByLots hN hR.2.2.2.1 w.2.2.2.1 (k := lSum (gL S)) (by omega)
  have hq := fz_ddiv (iI (sCost (lSum (gL S)) (gL S))) hne
  have hz := fz_d _ hq
  unfold fX12_meanPrice
  rw [e1, xcall_s, if_neg hne, e3, xcall_s, xnz_of hz]
theorem r_claimShare (hR : RBo t.1 S) (w : WG S) (h : bal (gA S) 0 + bal (gA S) 1 + bal (gA S) 2 ≠ 0) : fX12_claimShare N t = some (0, FP.fdiv (FP.i2f (iI (bal (gA S) 2))) (FP.i2f (iI (bal (gA S) 0 + bal (gA S) 1 + bal (gA S) 2)))) := by
  have h6 := w.wa.1
  have e0 : fX1_balanceAt N (0 : Int32) t.1.1 = some (iL (bal (gA S) 0)) := c_bal N hR.1 w.wa (i := 0) (by omega)
  have e1 : fX1_balanceAt N (1 : Int32) t.1.1 = some (iL (bal (gA S) 1)) := c_bal N hR.1 w.wa (i := 1) (by omega)
  have e2 : fX1_balanceAt N (2 : Int32) t.1.1 = some (iL (bal (gA S) 2)) := c_bal N hR.1 w.wa (i := 2) (by omega)
  have b0 := bal_rng w.wa (i := 0) (by omega)
  have b1 := bal_rng w.wa (i := 1) (by omega)
  have b2 := bal_rng w.wa (i := 2) (by omega)
  have es : iL (bal (gA S) 0) + iL (bal (gA S) 1) + iL (bal (gA S) 2) = iL (bal (gA S) 0 + bal (gA S) 1 + bal (gA S) 2) := by rw [l_add, l_add]
  obtain ⟨z, hz⟩ : ∃ z, z = bal (gA S) 0 + bal (gA S) 1 + bal (gA S) 2 := ⟨_, rfl⟩
  rw [← hz] at es h ⊢
  have hzr : -805306368 ≤ z ∧ z < 805306368 := by omega
  have hc : (lg_cmp (iL z) 0 = 0) = (z = 0) := l_cmp0 (a := z) (b := 0) (by omega) (by omega) (by omega) (by omega)
  have hm : (iI z = 0) = (z = 0) := i_eq (a := z) (b := 0) (by omega) (by omega) (by omega) (by omega)
  have hcl : ∀ x : Int64, x = iL z → fX12_claimShare N t = (if (lg_cmp x 0) = 0 then some (6, 0) else xnz (decide ((FP.fdiv (FP.l2f (iL (bal (gA S) 2))) (FP.l2f x)) &&& 0x7fffffff ≤ 0x7f800000)) <| some (0, FP.fdiv (FP.l2f (iL (bal (gA S) 2))) (FP.l2f x))) := fun x hx => by
    unfold fX12_claimShare
    rw [e2, xcall_s, e0, xcall_s, e1, xcall_s]
    unfold xlet
    rw [es, ← hx]
  have hne : iI z ≠ 0 := by rw [Ne, hm]; exact h
  have hq := fz_fdiv (iI (bal (gA S) 2)) hne
  have hg := fz_f _ hq
  rw [hcl _ rfl, if_neg (by rw [hc]; exact h), fz_l2f (by omega), fz_l2f (by omega), xnz_of hg]
end GRs
