/-! ===== readers: prompts, costs, bills, matches, ranks ===== -/
section RD2
variable {N : Nat} {t : ThlS} {s : MS} {S : SG}
theorem c_checkPro (N : Nat) (hR : RBo t.1 S) (w : WG S) {z : Int} (hz : -2147483648 ≤ z ∧ z < 2147483648) : fX12_checkPrompt N (iI z) t = some (if 0 ≤ z ∧ z < (gP S).length then 0 else 1) := by
  unfold fX12_checkPrompt
  rw [c_phas N hR.2.2.1 w.fr.2.1 hz, xcall_s]
  by_cases h : 0 ≤ z ∧ z < (gP S).length
  · rw [decide_eq_true h, if_pos h]; rfl
  · rw [decide_eq_false h, if_neg h]; rfl
theorem e_hoursUntil (hR : RBo t.1 S) (hM : GG s.1 S) (w : WG S) {z : Int} (hz : -2147483648 ≤ z ∧ z < 2147483648) : RD [1] (fX12_hoursUntilPrompt N (iI z) t) (fX13_hoursUntilPrompt N (iI z) s) s := by
  have hc := c_checkPro N hR w hz
  have hi := m_isPrompt N hM.2.2.1 w.fr.2.1 hz
  have hl := w.fr.2.1
  by_cases h : 0 ≤ z ∧ z < (gP S).length
  · rw [if_pos h] at hc
    rw [decide_eq_true h] at hi
    obtain ⟨x, hx⟩ : ∃ x, (gP S)[z.toNat]? = some x := ⟨_, List.getElem?_eq_getElem (by omega)⟩
    obtain ⟨g1, g2, g3, g4, g5, g6⟩ := hR.2.2.1.2 z.toNat x hx
    obtain ⟨k1, k2, k3, k4, k5, k6⟩ := hM.2.2.1.2 z.toNat x hx
    have e1 := c_phrs N (i := z.toNat) (by omega) g5
    rw [Int.toNat_of_nonneg h.1] at e1
    refine rd_ok (iI x.2.2.2.2.2) ?_ ?_
    · unfold fX12_hoursUntilPrompt
      rw [hc, xcall_s]
      show xcall _ _ = _
      rw [e1, xcall_s]
    · unfold fX13_hoursUntilPrompt fX13_waits
      rw [hi, xcall_s]
      unfold xjoin
      dsimp only
      rw [if_neg (show ¬ iB true = 0 by decide), show (175 : Int32) = iI 175 from rfl, show (187 : Int32) = iI 187 from rfl, i_add, i_add, xrd_at (k := 175 + z.toNat) (by congr 1; omega) (by omega) (by omega), xrd_at (k := 187 + z.toNat) (by congr 1; omega) (by omega) (by omega), k4, k6, hM.2.2.2.2.2.1, i_sub, i_sub, xcall_s, m_done, xcall_s]
      rw [show x.2.2.2.1 - ((gH S : Int) - ((gH S : Int) + x.2.2.2.2.2 - x.2.2.2.1)) = x.2.2.2.2.2 by omega]
  · rw [if_neg h] at hc
    rw [decide_eq_false h] at hi
    refine rd_no 1 0 (iI 0) ?_ (by decide) (by decide) ?_
    · unfold fX12_hoursUntilPrompt
      rw [hc, xcall_s]; rfl
    · unfold fX13_hoursUntilPrompt
      rw [hi, xcall_s]; rfl
theorem e_timesLeft (hR : RBo t.1 S) (hM : GG s.1 S) (w : WG S) {z : Int} (hz : -2147483648 ≤ z ∧ z < 2147483648) : RD [1] (fX12_timesLeft N (iI z) t) (fX13_timesLeft N (iI z) s) s := by
  have hc := c_checkPro N hR w hz
  have hi := m_isPrompt N hM.2.2.1 w.fr.2.1 hz
  have hl := w.fr.2.1
  by_cases h : 0 ≤ z ∧ z < (gP S).length
  · rw [if_pos h] at hc
    rw [decide_eq_true h] at hi
    obtain ⟨x, hx⟩ : ∃ x, (gP S)[z.toNat]? = some x := ⟨_, List.getElem?_eq_getElem (by omega)⟩
    obtain ⟨g1, g2, g3, g4, g5, g6⟩ := hR.2.2.1.2 z.toNat x hx
    obtain ⟨k1, k2, k3, k4, k5, k6⟩ := hM.2.2.1.2 z.toNat x hx
    have e1 := c_ptim N (i := z.toNat) (by omega) g6
    rw [Int.toNat_of_nonneg h.1] at e1
    refine rd_ok (iI x.2.2.2.2.1) ?_ ?_
    · unfold fX12_timesLeft
      rw [hc, xcall_s]
      show xcall _ _ = _
      rw [e1, xcall_s]
    · unfold fX13_timesLeft
      rw [hi, xcall_s]
      unfold xjoin
      dsimp only
      rw [if_neg (show ¬ iB true = 0 by decide), show (181 : Int32) = iI 181 from rfl, i_add, xrd_at (k := 181 + z.toNat) (by congr 1; omega) (by omega) (by omega), k5, m_done, xcall_s]
  · rw [if_neg h] at hc
    rw [decide_eq_false h] at hi
    refine rd_no 1 0 (iI 0) ?_ (by decide) (by decide) ?_
    · unfold fX12_timesLeft
      rw [hc, xcall_s]; rfl
    · unfold fX13_timesLeft
      rw [hi, xcall_s]; rfl
/-! costs -/
theorem m_costOf (hN : 2000 ≤ N) (hM : GG s.1 S) (w : WG S) {k : Int} (hk : -2147483648 ≤ k ∧ k < 2147483648) : fX13_costOf N (iI k) s = some (if ¬ (1 ≤ k ∧ k ≤ 20) then (iI 0, Ms12 s (iI 1)) else if lSum (gL S) < k then (iI 0, Ms12 s (iI 2)) else (iI (sCost k (gL S)), Ms12 s (iI 0))) := by
  have hl := w.fr.2.2.1
  have hr := lSum_rng w.2.2.2.1
  unfold fX13_costOf
  rw [show (1 : Int32) = iI 1 from rfl, show (20 : Int32) = iI 20 from rfl, m_in N hk (by omega) (by omega), xcall_s]
  by_cases h : 1 ≤ k ∧ k ≤ 20
  · rw [decide_eq_true h, if_neg (show ¬ iB true = 0 by decide), m_costumes hN hM.2.2.2.1 hl, xcall_s, if_neg (show ¬ ¬ (1 ≤ k ∧ k ≤ 20) from fun hh => hh h)]
    unfold xjoin
    dsimp only
    by_cases h2 : lSum (gL S) < k
    · rw [if_neg (by rw [i_le (by omega) (by omega) (by omega) (by omega)]; omega), if_pos h2]; rfl
    · rw [if_pos (by rw [i_le (by omega) (by omega) (by omega) (by omega)]; omega), if_neg h2, m_costOfFirst hN hM.2.2.2.1 w.2.2.2.1 (by omega)]; rfl
  · rw [decide_eq_false h, if_pos h]; rfl
theorem e_costs (hN : 2000 ≤ N) (hR : RBo t.1 S) (hM : GG s.1 S) (w : WG S) {k : Int} (hk : -2147483648 ≤ k ∧ k < 2147483648) : RD [3, 4] (fX12_costOf N (iI k) t) (fX13_costOf N (iI k) s) s ∧ RD [3, 4] (fX12_costByCostumes N (iI k) t) (fX13_costByCostumes N (iI k) s) s := by
  have hf := c_fCount hN hR.2.2.2.1 w.2.2.2.1 hk
  have hm := m_costOf hN hM w hk
  unfold fX12_costOf fX12_costByCostumes fX13_costByCostumes
  rw [hf, hm, xcall_s, xcall_s, xcall_s]
  by_cases h : 1 ≤ k ∧ k ≤ 20
  · rw [if_neg (show ¬ ¬ (1 ≤ k ∧ k ≤ 20) from fun hh => hh h), if_neg (show ¬ ¬ (1 ≤ k ∧ k ≤ 20) from fun hh => hh h)]
    by_cases h2 : lSum (gL S) < k
    · rw [if_pos h2, if_pos h2, c_refuse N 4 (by omega), xcall_s, xcall_s]
      exact ⟨rd_no 4 0 (iI 0) rfl (by decide) (by decide) rfl, rd_no 4 0 (iI 0) rfl (by decide) (by decide) rfl⟩
    · have e1 := c_costByLots hN hR.2.2.2.1 w.2.2.2.1 (k := k) (by omega)
      have e2 := c_costOneByOne hN hR.2.2.2.1 w.2.2.2.1 (k := k.toNat) (by omega)
      rw [Int.toNat_of_nonneg (by omega)] at e2
      rw [if_neg h2, if_neg h2, c_refuse N 0 (by omega), xcall_s, xcall_s]
      refine ⟨rd_ok (iI (sCost k (gL S))) ?_ rfl, rd_ok (iI (sCost k (gL S))) ?_ rfl⟩
      · show xcall _ _ = _
        rw [e1, xcall_s]
      · show xcall _ _ = _
        rw [e2, xcall_s]
  · rw [if_pos h, if_pos h, c_refuse N 3 (by omega), xcall_s, xcall_s]
    exact ⟨rd_no 3 0 (iI 0) rfl (by decide) (by decide) rfl, rd_no 3 0 (iI 0) rfl (by decide) (by decide) rfl⟩
/-! bills -/
theorem e_billAt (hR : RBo t.1 S) (hM : GG s.1 S) (w : WG S) {z : Int} (hz : -2147483648 ≤ z ∧ z < 2147483648) : RD [2] (fX12_billAt N (iI z) t) (fX13_billAt N (iI z) s) s := by
  have hl := w.fr.2.2.2
  unfold fX12_billAt fX13_billAt xjoin
  rw [hR.2.2.2.2.1.1, hM.2.2.2.2.1.1, show (1 : Int32) = iI 1 from rfl, i_sub, show (0 : Int32) = iI 0 from rfl, c_within N hz (by omega) (by omega), m_in N hz (by omega) (by omega), xcall_s, xcall_s]
  by_cases h : 0 ≤ z ∧ z ≤ ((gB S).1.length : Int) - 1
  · rw [decide_eq_true h]
    obtain ⟨x, hx⟩ : ∃ x, (gB S).1[z.toNat]? = some x := ⟨_, List.getElem?_eq_getElem (by omega)⟩
    have e1 := c_bIdAt N hR.2.2.2.2.1 w.2.2.2.2.1 hx
    have e2 := (hM.2.2.2.2.1.2.2 z.toNat x hx).1
    rw [Int.toNat_of_nonneg h.1] at e1
    refine rd_ok (iI x.1) ?_ ?_
    · rw [if_neg (show ¬ iB true = iI 0 by decide), e1, xcall_s]
    · dsimp only
      rw [if_neg (show ¬ iB true = iI 0 by decide), show (209 : Int32) = iI 209 from rfl, i_add, xrd_at (k := 209 + z.toNat) (by congr 1; omega) (by omega) (by omega), e2, m_done, xcall_s]
  · rw [decide_eq_false h]
    exact rd_no 2 0 (iI 0) rfl (by decide) (by decide) rfl
theorem plcI_cases (z : Int) (L : List (Int × Int)) : plcI z L = -1 ∨ ∃ (i : Nat) (x : Int × Int), plcI z L = i ∧ L[i]? = some x := by
  unfold plcI
  cases h : plc z L with
  | none => exact .inl rfl
  | some i =>
    obtain ⟨x, hx, _⟩ := plc_lt h
    exact .inr ⟨i, x, rfl, hx⟩
theorem c_checkedPlace (hN : 2000 ≤ N) (hR : RBo t.1 S) (w : WG S) {z : Int} (hz : -2147483648 ≤ z ∧ z < 2147483648) : fX12_checkedPlaceOf N (iI z) t = some (if plcI z (gB S).1 = -1 then (2, iI 0) else (0, iI (plcI z (gB S).1))) := by
  have hl := w.fr.2.2.2
  unfold fX12_checkedPlaceOf
  rw [c_placeOf hN hR.2.2.2.2.1 w.2.2.2.2.1 hz, xcall_s]
  rcases plcI_cases z (gB S).1 with h | ⟨i, x, h, hx⟩
  · rw [if_pos h, h]; rfl
  · have := lt_len hx
    rw [if_neg (show ¬ plcI z (gB S).1 = -1 by omega), h, if_neg (by rw [show (-1 : Int32) = iI (-1) from rfl, i_eq (by omega) (by omega) (by omega) (by omega)]; omega)]
theorem e_openAmount (hN : 2000 ≤ N) (hR : RBo t.1 S) (hM : GG s.1 S) (w : WG S) {z : Int} (hz : -2147483648 ≤ z ∧ z < 2147483648) : RD [2] (fX12_openAmount N (iI z) t) (fX13_openAmount N (iI z) s) s := by
  have hl := w.fr.2.2.2
  unfold fX12_openAmount fX13_openAmount xjoin
  rw [c_checkedPlace hN hR w hz, m_billPlace hN hM.2.2.2.2.1 w.2.2.2.2.1 hz, xcall_s, xcall_s]
  rcases plcI_cases z (gB S).1 with h | ⟨i, x, h, hx⟩
  · rw [if_pos h, h]
    exact rd_no 2 0 (iI 0) rfl (by decide) (by decide) rfl
  · have := lt_len hx
    rw [if_neg (show ¬ plcI z (gB S).1 = -1 by omega), h]
    refine rd_ok (iI x.2) ?_ ?_
    · show xcall (fX2_amountAt N (iI (i : Int)) t.1.2.2.2.2.1) _ = _
      rw [c_bAmountAt N hR.2.2.2.2.1 w.2.2.2.2.1 hx, xcall_s]
    · dsimp only
      rw [if_neg (by rw [show (-1 : Int32) = iI (-1) from rfl, i_eq (by omega) (by omega) (by omega) (by omega)]; omega), show (219 : Int32) = iI ((219 : Nat) : Int) from rfl, i_add, xrd_at (k := 219 + i) (by congr 1) (by omega) (by omega), (hM.2.2.2.2.1.2.2 i x hx).2, m_done, xcall_s]
end RD2
