/-! ===== a call that reads, held against the reference ===== -/
def R0 {α : Type} (c : Option α) (m : Option (α × MS)) (s : MS) : Prop := ∃ v, c = some v ∧ m = some (v, Ms12 s (iI 0))
def RD {α : Type} (cs : List Nat) (c : Option (Nat × α)) (m : Option (α × MS)) (s : MS) : Prop := ∃ q v v', c = some (q, v) ∧ m = some (v', Ms12 s (iI (lawC cs q : Int))) ∧ (q = 0 ∨ q ∈ cs) ∧ (q = 0 → v = v')
theorem rd_no {α : Type} {cs : List Nat} {c : Option (Nat × α)} {m : Option (α × MS)} {s : MS} (q : Nat) (v v' : α) (hc : c = some (q, v)) (hq : q ≠ 0) (hm : q ∈ cs) (h : m = some (v', Ms12 s (iI (lawC cs q : Int)))) : RD cs c m s := ⟨q, v, v', hc, h, .inr hm, fun e => absurd e hq⟩
theorem rd_ok {α : Type} {cs : List Nat} {c : Option (Nat × α)} {m : Option (α × MS)} {s : MS} (v : α) (hc : c = some (0, v)) (h : m = some (v, Ms12 s (iI 0))) : RD cs c m s := ⟨0, v, v, hc, h, .inl rfl, fun _ => rfl⟩
theorem abs_sum {A : SA} (w : WB0 A) : sumN (fun i => iabs (aD A i - aC A i)) (aN A) ≤ 2 * nbS A := by
  have hn := w.1
  have q := sum_but (fun i => aD A i - aC A i) 3 (aN A)
  rw [sumN_sub (aD A) (aC A), w.2.2.2.1, Int.sub_self, if_pos (by omega)] at q
  have e : sumN (fun i => if i = 3 then 0 else iabs (aD A i - aC A i)) (aN A) = nbS A := rfl
  rw [e] at q
  have e2 : sumN (fun i => iabs (aD A i - aC A i)) (aN A) = sumN (fun i => nb A i + (if i = 3 then iabs (aD A 3 - aC A 3) else 0)) (aN A) := sumN_congr _ fun i _ => by
    unfold nb
    by_cases h : i = 3
    · subst h; rw [if_pos rfl, if_pos rfl]; omega
    · rw [if_neg h, if_neg h]; omega
  rw [e2, sumN_add (nb A), sum_ind, if_pos (by omega)]
  have e3 : iabs (aD A 3 - aC A 3) = iabs (0 - (aD A 3 - aC A 3)) := by unfold iabs; split <;> split <;> omega
  have e4 : sumN (fun i => nb A i) (aN A) = nbS A := rfl
  rw [e3, e4]
  omega
theorem sum_bd {f g : Nat → Int} (n : Nat) (h : ∀ i, i < n → -(g i) ≤ f i ∧ f i ≤ g i) : -(sumN g n) ≤ sumN f n ∧ sumN f n ≤ sumN g n := by
  induction n with
  | zero => exact ⟨Int.le_refl _, Int.le_refl _⟩
  | succ n ih =>
    have := ih fun i hi => h i (by omega)
    have := h n (by omega)
    rw [sumN, sumN]
    omega
theorem WG.nb {S : SG} (w : WG S) : nbS (gA S) < 268435456 := by
  have := (psi_nn w).1
  have := w.2.2.2.2.2.2.2.1
  omega
theorem tree_rng {S : SG} (w : WG S) (t : Nat) : -2147483648 ≤ sTreeSum (gA S) t ∧ sTreeSum (gA S) t < 2147483648 := by
  have h := abs_sum w.1
  have h2 := w.nb
  have := sum_bd (f := fun k => if below (gA S) t k = true then bal (gA S) k else 0) (g := fun i => iabs (aD (gA S) i - aC (gA S) i)) (aN (gA S)) (fun i _ => by
    have h3 := iabs_le (aD (gA S) i - aC (gA S) i)
    have h4 := iabs_nn (aD (gA S) i - aC (gA S) i)
    unfold bal
    split
    · split <;> omega
    · omega)
  unfold sTreeSum
  omega
theorem gain_rng {S : SG} (w : WG S) : -2147483648 ≤ sumN (gainAt (gA S)) (aN (gA S)) ∧ sumN (gainAt (gA S)) (aN (gA S)) < 2147483648 := by
  have h := abs_sum w.1
  have h2 := w.nb
  have := sum_bd (f := gainAt (gA S)) (g := fun i => iabs (aD (gA S) i - aC (gA S) i)) (aN (gA S)) (fun i _ => by
    have h3 := iabs_le (aD (gA S) i - aC (gA S) i)
    have h4 := iabs_nn (aD (gA S) i - aC (gA S) i)
    unfold gainAt
    split <;> omega)
  omega
section RDs
variable {N : Nat} {t : ThlS} {s : MS} {S : SG}
theorem e_hour (hR : RBo t.1 S) (hM : GG s.1 S) : R0 (fX12_hour N t) (fX13_hour N s) s := ⟨iI (gH S : Int), by unfold fX12_hour; rw [hR.2.2.2.2.2.1], by unfold fX13_hour; rw [hM.2.2.2.2.2.1]; rfl⟩
theorem e_accountCount (hR : RBo t.1 S) (hM : GG s.1 S) : R0 (fX12_accountCount N t) (fX13_accountCount N s) s := ⟨iI (aN (gA S) : Int), by unfold fX12_accountCount; rw [hR.1.2.1], by unfold fX13_accountCount; rw [hM.1.1]; rfl⟩
theorem e_curtainCount (hR : RBo t.1 S) (hM : GG s.1 S) : R0 (fX12_curtainCount N t) (fX13_curtainCount N s) s := ⟨iI (gC S : Int), by unfold fX12_curtainCount; rw [hR.2.2.2.2.2.2], by unfold fX13_curtainCount; rw [hM.2.2.2.2.2.2]; rfl⟩
theorem e_promptCount (hR : RBo t.1 S) (hM : GG s.1 S) : R0 (fX12_promptCount N t) (fX13_promptCount N s) s := ⟨iI ((gP S).length : Int), by unfold fX12_promptCount; rw [hR.2.2.1.1], by unfold fX13_promptCount; rw [hM.2.2.1.1]; rfl⟩
theorem e_lotCount (hR : RBo t.1 S) (hM : GG s.1 S) : R0 (fX12_lotCount N t) (fX13_lotCount N s) s := ⟨iI ((gL S).length : Int), by unfold fX12_lotCount; rw [hR.2.2.2.1.1], by unfold fX13_lotCount; rw [hM.2.2.2.1.1]; rfl⟩
theorem e_billCount (hR : RBo t.1 S) (hM : GG s.1 S) : R0 (fX12_billCount N t) (fX13_billCount N s) s := ⟨iI ((gB S).1.length : Int), by unfold fX12_billCount; rw [hR.2.2.2.2.1.1], by unfold fX13_billCount; rw [hM.2.2.2.2.1.1]; rfl⟩
theorem e_entryCount (hR : RBo t.1 S) (hM : GG s.1 S) (w : WG S) : R0 (fX12_entryCount N t) (fX13_entryCount N s) s := ⟨iI (jK (gJ S) : Int), by unfold fX12_entryCount; rw [c_keptCount N hR.2.1 w.2.1.1, xcall_s], by unfold fX13_entryCount; rw [hM.2.1.2.1]; rfl⟩
theorem e_costumeCount (hN : 2000 ≤ N) (hR : RBo t.1 S) (hM : GG s.1 S) (w : WG S) : R0 (fX12_costumeCount N t) (fX13_costumeCount N s) s := ⟨iI (lSum (gL S)), by unfold fX12_costumeCount; rw [c_costumes hN hR.2.2.2.1 w.fr.2.2.1, xcall_s], by unfold fX13_costumeCount; rw [m_costumes hN hM.2.2.2.1 w.fr.2.2.1]; rfl⟩
theorem e_openTotal (hN : 2000 ≤ N) (hR : RBo t.1 S) (hM : GG s.1 S) (w : WG S) : R0 (fX12_openTotal N t) (fX13_openTotal N s) s := ⟨iI (bSum (gB S).1), by unfold fX12_openTotal; rw [c_total hN hR.2.2.2.2.1 w.2.2.2.2.1, xcall_s], by unfold fX13_openTotal; rw [m_owed hN hM.2.2.2.2.1 w.2.2.2.2.1]; rfl⟩
theorem deb_rng {S : SG} (w : WG S) : 0 ≤ sumN (aD (gA S)) (aN (gA S)) ∧ sumN (aD (gA S)) (aN (gA S)) < 2147483648 := ⟨sumN_nonneg _ fun i hi => (w.wa.at hi).2.2.2.1, w.wa.2.2.2.2.2.1⟩
theorem e_sumOfDebits (hN : 2000 ≤ N) (hR : RBo t.1 S) (hM : GG s.1 S) (w : WG S) : R0 (fX12_sumOfDebits N t) (fX13_sumOfDebits N s) s := ⟨iL (sumN (aD (gA S)) (aN (gA S))), by unfold fX12_sumOfDebits; rw [c_allDebits hN hR.1 w.wa, xcall_s], by
  have := deb_rng w
  rw [m_sumOfDebits hN hM.1 w.wa, i_toL (by omega) (by omega)]⟩
theorem e_sumOfCredits (hN : 2000 ≤ N) (hR : RBo t.1 S) (hM : GG s.1 S) (w : WG S) : R0 (fX12_sumOfCredits N t) (fX13_sumOfCredits N s) s := ⟨iL (sumN (aC (gA S)) (aN (gA S))), by unfold fX12_sumOfCredits; rw [c_allCredits hN hR.1 w.wa, xcall_s], by
  have := deb_rng w
  unfold fX13_sumOfCredits
  rw [m_sumOfDebits hN hM.1 w.wa, i_toL (by omega) (by omega), w.1.2.2.2.1]; rfl⟩
theorem e_profit (hN : 2000 ≤ N) (hR : RBo t.1 S) (hM : GG s.1 S) (w : WG S) : R0 (fX12_profit N t) (fX13_profit N s) s := ⟨iL (sumN (gainAt (gA S)) (aN (gA S))), by unfold fX12_profit; rw [c_gain hN hR.1 w.wa, xcall_s], by
  have := gain_rng w
  unfold fX13_profit
  rw [m_profitNow hN hM.1 w.wa, xcall_s, m_done, xcall_s, i_toL (by omega) (by omega)]⟩
/-! accounts -/
theorem c_checkAcc (N : Nat) (hR : RBo t.1 S) (w : WG S) {z : Int} (hz : -2147483648 ≤ z ∧ z < 2147483648) : fX12_checkAccount N (iI z) t = some (if 0 ≤ z ∧ z < aN (gA S) then 0 else 1) := by
  unfold fX12_checkAccount
  rw [c_has N hR.1 w.fr.1 hz, xcall_s]
  by_cases h : 0 ≤ z ∧ z < aN (gA S)
  · rw [decide_eq_true h, if_pos h]; rfl
  · rw [decide_eq_false h, if_neg h]; rfl
theorem k_char {k : Int} (h : isKd k) : ((Int32.toUInt32 (iI k)) % 65536).toInt32 = iI k := by
  rcases h with h | h | h | h <;> rw [h] <;> decide
theorem e_kind (hR : RBo t.1 S) (hM : GG s.1 S) (w : WG S) {z : Int} (hz : -2147483648 ≤ z ∧ z < 2147483648) : RD [1] (fX12_kind N (iI z) t) (fX13_kind N (iI z) s) s := by
  have hc := c_checkAcc N hR w hz
  have hi := m_isAccount N hM.1 w.fr.1 hz
  by_cases h : 0 ≤ z ∧ z < aN (gA S)
  · rw [if_pos h] at hc
    rw [decide_eq_true h] at hi
    have hk := w.wa.rk (i := z.toNat) (by omega)
    have hn := w.1.2.1
    have hch := k_char (w.wa.at (i := z.toNat) (by omega)).1
    have e1 := c_kindAt N hR.1 w.wa (i := z.toNat) (by omega)
    rw [Int.toNat_of_nonneg h.1] at e1
    have e2 := (hM.1.2.1 z.toNat (by omega)).1
    refine rd_ok (iI (aK (gA S) z.toNat)) ?_ ?_
    · unfold fX12_kind
      rw [hc, xcall_s]
      show xcall _ _ = _
      rw [e1, xcall_s, xnz_of (xnar_char (by omega) (by omega))]
    · unfold fX13_kind
      rw [hi, xcall_s]
      unfold xjoin
      dsimp only
      rw [if_neg (show ¬ iB true = 0 by decide), if_pos rfl, show (9 : Int32) = iI 9 from rfl, i_add, xrd_at (k := 9 + z.toNat) (by congr 1; omega) (by omega) (by omega)]
      show xnz (xnar .char (((Int32.toUInt32 (s.1 (9 + z.toNat))) % 65536).toInt32)) _ = _
      rw [e2, hch, xnz_of (xnar_char (by omega) (by omega))]
      rfl
  · rw [if_neg h] at hc
    rw [decide_eq_false h] at hi
    refine rd_no 1 0 0 ?_ (by decide) (by decide) ?_
    · unfold fX12_kind
      rw [hc, xcall_s]; rfl
    · unfold fX13_kind
      rw [hi, xcall_s]; rfl
theorem e_parent (hR : RBo t.1 S) (hM : GG s.1 S) (w : WG S) {z : Int} (hz : -2147483648 ≤ z ∧ z < 2147483648) : RD [1, 2] (fX12_parent N (iI z) t) (fX13_parent N (iI z) s) s := by
  have hc := c_checkAcc N hR w hz
  have hi := m_isAccount N hM.1 w.fr.1 hz
  have hn := w.1.2.1
  by_cases h : 0 ≤ z ∧ z < aN (gA S)
  · rw [if_pos h] at hc
    rw [decide_eq_true h] at hi
    have hk := w.wa.at (i := z.toNat) (by omega)
    have e1 := c_parentAt N hR.1 w.wa (i := z.toNat) (by omega)
    rw [Int.toNat_of_nonneg h.1] at e1
    have e2 := (hM.1.2.1 z.toNat (by omega)).2
    by_cases hp : aP (gA S) z.toNat = -1
    · refine rd_no 2 0 (iI 0) ?_ (by decide) (by decide) ?_
      · unfold fX12_parent
        rw [hc, xcall_s]
        show xcall _ _ = _
        rw [e1, xcall_s, hp]
        rfl
      · unfold fX13_parent
        rw [hi, xcall_s, if_neg (show ¬ iB true = 0 by decide), show (21 : Int32) = iI 21 from rfl, i_add, xrd_at (k := 21 + z.toNat) (by congr 1; omega) (by omega) (by omega), e2, hp]
        rfl
    · refine rd_ok (iI (aP (gA S) z.toNat)) ?_ ?_
      · unfold fX12_parent
        rw [hc, xcall_s]
        show xcall _ _ = _
        rw [e1, xcall_s, if_neg]
        rw [show (-1 : Int32) = iI (-1) from rfl, i_eq (by omega) (by omega) (by omega) (by omega)]
        exact hp
      · unfold fX13_parent
        rw [hi, xcall_s, if_neg (show ¬ iB true = 0 by decide), show (21 : Int32) = iI 21 from rfl, i_add, xrd_at (k := 21 + z.toNat) (by congr 1; omega) (by omega) (by omega), e2]
        unfold xjoin
        dsimp only
        rw [if_neg (by rw [i_lit, i_eq (by omega) (by omega) (by omega) (by omega)]; omega), xrd_at (k := 21 + z.toNat) (by congr 1; omega) (by omega) (by omega), e2, show (1 : Int32) = iI 1 from rfl, i_sub, m_done, xcall_s]
        rw [show aP (gA S) z.toNat + 1 - 1 = aP (gA S) z.toNat by omega]
  · rw [if_neg h] at hc
    rw [decide_eq_false h] at hi
    refine rd_no 1 0 0 ?_ (by decide) (by decide) ?_
    · unfold fX12_parent
      rw [hc, xcall_s]; rfl
    · unfold fX13_parent
      rw [hi, xcall_s]; rfl
theorem e_debits (hR : RBo t.1 S) (hM : GG s.1 S) (w : WG S) {z : Int} (hz : -2147483648 ≤ z ∧ z < 2147483648) : RD [1] (fX12_debits N (iI z) t) (fX13_debits N (iI z) s) s := by
  have hc := c_checkAcc N hR w hz
  have hi := m_isAccount N hM.1 w.fr.1 hz
  have hn := w.1.2.1
  by_cases h : 0 ≤ z ∧ z < aN (gA S)
  · rw [if_pos h] at hc
    rw [decide_eq_true h] at hi
    have hk := w.wa.at (i := z.toNat) (by omega)
    have e1 := c_debitsAt N hR.1 w.wa (i := z.toNat) (by omega)
    rw [Int.toNat_of_nonneg h.1] at e1
    have e2 := (hM.1.2.2 z.toNat (by omega)).1
    refine rd_ok (iL (aD (gA S) z.toNat)) ?_ ?_
    · unfold fX12_debits
      rw [hc, xcall_s]
      show xcall _ _ = _
      rw [e1, xcall_s]
    · unfold fX13_debits
      rw [hi, xcall_s]
      unfold xjoin
      dsimp only
      rw [if_neg (show ¬ iB true = 0 by decide), show (33 : Int32) = iI 33 from rfl, i_add, xrd_at (k := 33 + z.toNat) (by congr 1; omega) (by omega) (by omega), e2, m_done, xcall_s, i_toL (by omega) (by omega)]
  · rw [if_neg h] at hc
    rw [decide_eq_false h] at hi
    refine rd_no 1 0 ((iI 0).toInt64) ?_ (by decide) (by decide) ?_
    · unfold fX12_debits
      rw [hc, xcall_s]; rfl
    · unfold fX13_debits
      rw [hi, xcall_s]; rfl
theorem e_credits (hR : RBo t.1 S) (hM : GG s.1 S) (w : WG S) {z : Int} (hz : -2147483648 ≤ z ∧ z < 2147483648) : RD [1] (fX12_credits N (iI z) t) (fX13_credits N (iI z) s) s := by
  have hc := c_checkAcc N hR w hz
  have hi := m_isAccount N hM.1 w.fr.1 hz
  have hn := w.1.2.1
  by_cases h : 0 ≤ z ∧ z < aN (gA S)
  · rw [if_pos h] at hc
    rw [decide_eq_true h] at hi
    have hk := w.wa.at (i := z.toNat) (by omega)
    have e1 := c_creditsAt N hR.1 w.wa (i := z.toNat) (by omega)
    rw [Int.toNat_of_nonneg h.1] at e1
    have e2 := (hM.1.2.2 z.toNat (by omega)).2
    refine rd_ok (iL (aC (gA S) z.toNat)) ?_ ?_
    · unfold fX12_credits
      rw [hc, xcall_s]
      show xcall _ _ = _
      rw [e1, xcall_s]
    · unfold fX13_credits
      rw [hi, xcall_s]
      unfold xjoin
      dsimp only
      rw [if_neg (show ¬ iB true = 0 by decide), show (45 : Int32) = iI 45 from rfl, i_add, xrd_at (k := 45 + z.toNat) (by congr 1; omega) (by omega) (by omega), e2, m_done, xcall_s, i_toL (by omega) (by omega)]
  · rw [if_neg h] at hc
    rw [decide_eq_false h] at hi
    refine rd_no 1 0 ((iI 0).toInt64) ?_ (by decide) (by decide) ?_
    · unfold fX12_credits
      rw [hc, xcall_s]; rfl
    · unfold fX13_credits
      rw [hi, xcall_s]; rfl
theorem e_balance (hR : RBo t.1 S) (hM : GG s.1 S) (w : WG S) {z : Int} (hz : -2147483648 ≤ z ∧ z < 2147483648) : RD [1] (fX12_balance N (iI z) t) (fX13_balance N (iI z) s) s := by
  have hc := c_checkAcc N hR w hz
  have hi := m_isAccount N hM.1 w.fr.1 hz
  by_cases h : 0 ≤ z ∧ z < aN (gA S)
  · rw [if_pos h] at hc
    rw [decide_eq_true h] at hi
    have hk := bal_rng w.wa (i := z.toNat) (by omega)
    have e1 := c_bal N hR.1 w.wa (i := z.toNat) (by omega)
    have e2 := m_bal N hM.1 w.wa (i := z.toNat) (by omega)
    rw [Int.toNat_of_nonneg h.1] at e1 e2
    refine rd_ok (iL (bal (gA S) z.toNat)) ?_ ?_
    · unfold fX12_balance
      rw [hc, xcall_s]
      show xcall _ _ = _
      rw [e1, xcall_s]
    · unfold fX13_balance
      rw [hi, xcall_s]
      unfold xjoin
      dsimp only
      rw [if_neg (show ¬ iB true = 0 by decide), e2, xcall_s, m_done, xcall_s, i_toL (by omega) (by omega)]
  · rw [if_neg h] at hc
    rw [decide_eq_false h] at hi
    refine rd_no 1 0 ((iI 0).toInt64) ?_ (by decide) (by decide) ?_
    · unfold fX12_balance
      rw [hc, xcall_s]; rfl
    · unfold fX13_balance
      rw [hi, xcall_s]; rfl
theorem mtb_no {N : Nat} {s : MS} {z : Int32} (h : fX13_isAccount N z s = some (iB false)) : fX13_treeBalance N z s = some ((iI 0).toInt64, Ms12 s (iI 1)) := by
  unfold fX13_treeBalance
  rw [h, xcall_s]; rfl
theorem e_treeBalance (hN : 2000 ≤ N) (hR : RBo t.1 S) (hM : GG s.1 S) (w : WG S) {z : Int} (hz : -2147483648 ≤ z ∧ z < 2147483648) : RD [1] (fX12_treeBalance N (iI z) t) (fX13_treeBalance N (iI z) s) s ∧ RD [1] (fX12_treeBalanceByParents N (iI z) t) (fX13_treeBalanceByParents N (iI z) s) s := by
  have hc := c_checkAcc N hR w hz
  have hi := m_isAccount N hM.1 w.fr.1 hz
  unfold fX12_treeBalance fX12_treeBalanceByParents fX13_treeBalanceByParents
  by_cases h : 0 ≤ z ∧ z < aN (gA S)
  · rw [if_pos h] at hc
    have hk := tree_rng w z.toNat
    have e1 := c_sumOfTree hN hR.1 w.wa (t := z.toNat) (by omega)
    have e3 := c_sumOfThoseBelow hN hR.1 w.wa (t := z.toNat) (by omega)
    have e2 := m_treeBalance hN hM.1 w.wa (t := z.toNat) (by omega)
    rw [Int.toNat_of_nonneg h.1] at e1 e2 e3
    rw [i_toL hk.1 hk.2] at e2
    refine ⟨rd_ok (iL (sTreeSum (gA S) z.toNat)) ?_ e2, rd_ok (iL (sTreeSum (gA S) z.toNat)) ?_ (by rw [e2]; rfl)⟩
    · rw [hc, xcall_s]
      show xcall _ _ = _
      rw [e1, xcall_s]
    · rw [hc, xcall_s]
      show xcall _ _ = _
      rw [e3, xcall_s]
  · rw [if_neg h] at hc
    rw [decide_eq_false h] at hi
    have e2 := mtb_no hi
    refine ⟨rd_no 1 0 ((iI 0).toInt64) ?_ (by decide) (by decide) (by rw [e2]; rfl), rd_no 1 0 ((iI 0).toInt64) ?_ (by decide) (by decide) (by rw [e2]; rfl)⟩
    · rw [hc, xcall_s]; rfl
    · rw [hc, xcall_s]; rfl
theorem e_treeSize (hN : 2000 ≤ N) (hR : RBo t.1 S) (hM : GG s.1 S) (w : WG S) {z : Int} (hz : -2147483648 ≤ z ∧ z < 2147483648) : RD [1] (fX12_treeSize N (iI z) t) (fX13_treeSize N (iI z) s) s := by
  have hc := c_checkAcc N hR w hz
  have hi := m_isAccount N hM.1 w.fr.1 hz
  unfold fX12_treeSize
  by_cases h : 0 ≤ z ∧ z < aN (gA S)
  · rw [if_pos h] at hc
    have e1 := c_sizeOfTree hN hR.1 w.wa (t := z.toNat) (by omega)
    have e2 := m_treeSize hN hM.1 w.wa (t := z.toNat) (by omega)
    rw [Int.toNat_of_nonneg h.1] at e1 e2
    refine rd_ok (iI (sTreeSize (gA S) z.toNat)) ?_ e2
    rw [hc, xcall_s]
    show xcall _ _ = _
    rw [e1, xcall_s]
  · rw [if_neg h] at hc
    rw [decide_eq_false h] at hi
    refine rd_no 1 0 (iI 0) ?_ (by decide) (by decide) ?_
    · rw [hc, xcall_s]; rfl
    · unfold fX13_treeSize
      rw [hi, xcall_s]; rfl
/-! entries -/
theorem c_checkEnt (N : Nat) (hR : RBo t.1 S) (w : WG S) {z : Int} (hz : -2147483648 ≤ z ∧ z < 2147483648) : fX12_checkEntry N (iI z) t = some (if (jN (gJ S) : Int) - jK (gJ S) ≤ z ∧ z < jN (gJ S) then 0 else 2) := by
  unfold fX12_checkEntry
  rw [c_jhas N hR.2.1 w.2.1.1 hz, xcall_s]
  by_cases h : (jN (gJ S) : Int) - jK (gJ S) ≤ z ∧ z < jN (gJ S)
  · rw [decide_eq_true h, if_pos h]; rfl
  · rw [decide_eq_false h, if_neg h]; rfl
theorem m_eNum (N : Nat) (hM : GG s.1 S) (w : WG S) {z : Int} (hz : -2147483648 ≤ z ∧ z < 2147483648) {o : Nat} (ho : o ≤ 137) : (¬ ((jN (gJ S) : Int) - jK (gJ S) ≤ z ∧ z < jN (gJ S)) → fX13_entryNumber N (iI (o : Int)) (iI z) s = some (iI 0, Ms12 s (iI 1))) ∧ ((jN (gJ S) : Int) - jK (gJ S) ≤ z ∧ z < jN (gJ S) → fX13_entryNumber N (iI (o : Int)) (iI z) s = some (s.1 (o + (z.toNat - (jN (gJ S) - jK (gJ S)))), Ms12 s (iI 0))) := by
  have hp := m_placeOf N hM w hz
  have hk := jK_le (gJ S)
  have hk2 : jK (gJ S) ≤ jN (gJ S) := by unfold jK; omega
  have hj := w.2.1.1
  unfold fX13_entryNumber xjoin
  constructor
  · intro h
    rw [hp, if_neg h, xcall_s]
    rfl
  · intro h
    rw [hp, if_pos h, xcall_s]
    dsimp only
    rw [if_neg (by rw [show (-1 : Int32) = iI (-1) from rfl, i_eq (by omega) (by omega) (by omega) (by omega)]; omega), i_add, xrd_at (k := o + (z.toNat - (jN (gJ S) - jK (gJ S)))) (by congr 1; omega) (by omega) (by omega), m_done, xcall_s]
theorem ent_at (hM : GG s.1 S) {z : Int} (h : (jN (gJ S) : Int) - jK (gJ S) ≤ z ∧ z < jN (gJ S)) : s.1 (57 + (z.toNat - (jN (gJ S) - jK (gJ S)))) = iI (jD (gJ S) z.toNat) ∧ s.1 (77 + (z.toNat - (jN (gJ S) - jK (gJ S)))) = iI (jC (gJ S) z.toNat) ∧ s.1 (97 + (z.toNat - (jN (gJ S) - jK (gJ S)))) = iI (jA (gJ S) z.toNat) ∧ s.1 (117 + (z.toNat - (jN (gJ S) - jK (gJ S)))) = iI (jH (gJ S) z.toNat) ∧ s.1 (137 + (z.toNat - (jN (gJ S) - jK (gJ S)))) = iI (jM (gJ S) z.toNat) := by
  have hk2 : jK (gJ S) ≤ jN (gJ S) := by unfold jK; omega
  have q := hM.2.1.2.2 (z.toNat - (jN (gJ S) - jK (gJ S))) (by omega)
  rw [show jN (gJ S) - jK (gJ S) + (z.toNat - (jN (gJ S) - jK (gJ S))) = z.toNat by omega] at q
  exact q
theorem e_debitOf (hR : RBo t.1 S) (hM : GG s.1 S) (w : WG S) {z : Int} (hz : -2147483648 ≤ z ∧ z < 2147483648) : RD [2] (fX12_debitOf N (iI z) t) (fX13_debitOf N (iI z) s) s := by
  have hc := c_checkEnt N hR w hz
  obtain ⟨m1, m2⟩ := m_eNum N hM w hz (o := 57) (by omega)
  have hk2 : jK (gJ S) ≤ jN (gJ S) := by unfold jK; omega
  unfold fX12_debitOf fX13_debitOf
  by_cases h : (jN (gJ S) : Int) - jK (gJ S) ≤ z ∧ z < jN (gJ S)
  · have e1 := c_jdeb N hR.2.1 w.2.1.1 (e := z.toNat) (by omega) (by omega)
    rw [Int.toNat_of_nonneg (by omega)] at e1
    rw [if_pos h] at hc
    refine rd_ok (iI (jD (gJ S) z.toNat)) ?_ ?_
    · rw [hc, xcall_s]
      show xcall _ _ = _
      rw [e1, xcall_s]
    · rw [show (57 : Int32) = iI ((57 : Nat) : Int) from rfl, m2 h, xcall_s, (ent_at hM h).1]
  · rw [if_neg h] at hc
    refine rd_no 2 0 (iI 0) ?_ (by decide) (by decide) ?_
    · rw [hc, xcall_s]; rfl
    · rw [show (57 : Int32) = iI ((57 : Nat) : Int) from rfl, m1 h, xcall_s]; rfl
theorem e_creditOf (hR : RBo t.1 S) (hM : GG s.1 S) (w : WG S) {z : Int} (hz : -2147483648 ≤ z ∧ z < 2147483648) : RD [2] (fX12_creditOf N (iI z) t) (fX13_creditOf N (iI z) s) s := by
  have hc := c_checkEnt N hR w hz
  obtain ⟨m1, m2⟩ := m_eNum N hM w hz (o := 77) (by omega)
  have hk2 : jK (gJ S) ≤ jN (gJ S) := by unfold jK; omega
  unfold fX12_creditOf fX13_creditOf
  by_cases h : (jN (gJ S) : Int) - jK (gJ S) ≤ z ∧ z < jN (gJ S)
  · have e1 := c_jcre N hR.2.1 w.2.1.1 (e := z.toNat) (by omega) (by omega)
    rw [Int.toNat_of_nonneg (by omega)] at e1
    rw [if_pos h] at hc
    refine rd_ok (iI (jC (gJ S) z.toNat)) ?_ ?_
    · rw [hc, xcall_s]
      show xcall _ _ = _
      rw [e1, xcall_s]
    · rw [show (77 : Int32) = iI ((77 : Nat) : Int) from rfl, m2 h, xcall_s, (ent_at hM h).2.1]
  · rw [if_neg h] at hc
    refine rd_no 2 0 (iI 0) ?_ (by decide) (by decide) ?_
    · rw [hc, xcall_s]; rfl
    · rw [show (77 : Int32) = iI ((77 : Nat) : Int) from rfl, m1 h, xcall_s]; rfl
theorem e_hourOf (hR : RBo t.1 S) (hM : GG s.1 S) (w : WG S) {z : Int} (hz : -2147483648 ≤ z ∧ z < 2147483648) : RD [2] (fX12_hourOf N (iI z) t) (fX13_hourOf N (iI z) s) s := by
  have hc := c_checkEnt N hR w hz
  obtain ⟨m1, m2⟩ := m_eNum N hM w hz (o := 117) (by omega)
  have hk2 : jK (gJ S) ≤ jN (gJ S) := by unfold jK; omega
  unfold fX12_hourOf fX13_hourOf
  by_cases h : (jN (gJ S) : Int) - jK (gJ S) ≤ z ∧ z < jN (gJ S)
  · have e1 := c_jhour N hR.2.1 w.2.1.1 (e := z.toNat) (by omega) (by omega)
    rw [Int.toNat_of_nonneg (by omega)] at e1
    rw [if_pos h] at hc
    refine rd_ok (iI (jH (gJ S) z.toNat)) ?_ ?_
    · rw [hc, xcall_s]
      show xcall _ _ = _
      rw [e1, xcall_s]
    · rw [show (117 : Int32) = iI ((117 : Nat) : Int) from rfl, m2 h, xcall_s, (ent_at hM h).2.2.2.1]
  · rw [if_neg h] at hc
    refine rd_no 2 0 (iI 0) ?_ (by decide) (by decide) ?_
    · rw [hc, xcall_s]; rfl
    · rw [show (117 : Int32) = iI ((117 : Nat) : Int) from rfl, m1 h, xcall_s]; rfl
theorem e_amountOf (hR : RBo t.1 S) (hM : GG s.1 S) (w : WG S) {z : Int} (hz : -2147483648 ≤ z ∧ z < 2147483648) : RD [2] (fX12_amountOf N (iI z) t) (fX13_amountOf N (iI z) s) s := by
  have hc := c_checkEnt N hR w hz
  obtain ⟨m1, m2⟩ := m_eNum N hM w hz (o := 97) (by omega)
  have hk2 : jK (gJ S) ≤ jN (gJ S) := by unfold jK; omega
  unfold fX12_amountOf fX13_amountOf
  by_cases h : (jN (gJ S) : Int) - jK (gJ S) ≤ z ∧ z < jN (gJ S)
  · have e1 := c_jamt N hR.2.1 w.2.1.1 (e := z.toNat) (by omega) (by omega)
    rw [Int.toNat_of_nonneg (by omega)] at e1
    have q := w.2.1.2 z.toNat (by omega) (by omega)
    rw [if_pos h] at hc
    refine rd_ok (iL (jA (gJ S) z.toNat)) ?_ ?_
    · rw [hc, xcall_s]
      show xcall _ _ = _
      rw [e1, xcall_s]
    · rw [show (97 : Int32) = iI ((97 : Nat) : Int) from rfl, m2 h, xcall_s, (ent_at hM h).2.2.1, i_toL (by omega) (by omega)]
  · rw [if_neg h] at hc
    refine rd_no 2 0 ((iI 0).toInt64) ?_ (by decide) (by decide) ?_
    · rw [hc, xcall_s]; rfl
    · rw [show (97 : Int32) = iI ((97 : Nat) : Int) from rfl, m1 h, xcall_s]; rfl
theorem e_isReversed (hR : RBo t.1 S) (hM : GG s.1 S) (w : WG S) {z : Int} (hz : -2147483648 ≤ z ∧ z < 2147483648) : RD [2] (fX12_isReversed N (iI z) t) (fX13_isReversed N (iI z) s) s := by
  have hc := c_checkEnt N hR w hz
  obtain ⟨m1, m2⟩ := m_eNum N hM w hz (o := 137) (by omega)
  have hk2 : jK (gJ S) ≤ jN (gJ S) := by unfold jK; omega
  unfold fX12_isReversed fX13_isReversed xjoin
  by_cases h : (jN (gJ S) : Int) - jK (gJ S) ≤ z ∧ z < jN (gJ S)
  · have e1 := c_jwas N hR.2.1 w.2.1 (e := z.toNat) (by omega) (by omega)
    rw [Int.toNat_of_nonneg (by omega)] at e1
    have q := w.2.1.2 z.toNat (by omega) (by omega)
    rw [if_pos h] at hc
    refine rd_ok (iB (decide (jM (gJ S) z.toNat = 1))) ?_ ?_
    · rw [hc, xcall_s]
      show xcall _ _ = _
      rw [e1, xcall_s, xnz_of xnar_b]
    · rw [show (137 : Int32) = iI ((137 : Nat) : Int) from rfl, m2 h, xcall_s, (ent_at hM h).2.2.2.2]
      dsimp only
      by_cases h1 : jM (gJ S) z.toNat = 1
      · rw [h1]; rfl
      · rw [if_neg (by rw [show (1 : Int32) = iI 1 from rfl, i_eq (by omega) (by omega) (by omega) (by omega)]; exact h1), decide_eq_false h1]; rfl
  · rw [if_neg h] at hc
    refine rd_no 2 0 (iI 0) ?_ (by decide) (by decide) ?_
    · rw [hc, xcall_s]; rfl
    · rw [show (137 : Int32) = iI ((137 : Nat) : Int) from rfl, m1 h, xcall_s]; rfl
theorem e_entryAt (hR : RBo t.1 S) (hM : GG s.1 S) (w : WG S) {z : Int} (hz : -2147483648 ≤ z ∧ z < 2147483648) : RD [2] (fX12_entryAt N (iI z) t) (fX13_entryAt N (iI z) s) s := by
  have hk := jK_le (gJ S)
  have hk2 : jK (gJ S) ≤ jN (gJ S) := by unfold jK; omega
  have hj := w.2.1.1
  unfold fX12_entryAt fX13_entryAt xjoin
  rw [c_keptCount N hR.2.1 hj, xcall_s, hM.2.1.2.1, hM.2.1.1, show (1 : Int32) = iI 1 from rfl, i_sub, show (0 : Int32) = iI 0 from rfl, c_within N hz (by omega) (by omega), m_in N hz (by omega) (by omega), xcall_s, xcall_s]
  by_cases h : 0 ≤ z ∧ z ≤ (jK (gJ S) : Int) - 1
  · rw [decide_eq_true h]
    refine rd_ok (iI ((jN (gJ S) : Int) - jK (gJ S) + z)) ?_ ?_
    · rw [if_neg (show ¬ iB true = iI 0 by decide), c_idAt N hR.2.1 hj, xcall_s]
    · dsimp only
      rw [if_neg (show ¬ iB true = iI 0 by decide), i_sub, i_add, m_done, xcall_s]
  · rw [decide_eq_false h]
    exact rd_no 2 0 (iI 0) rfl (by decide) (by decide) rfl
end RDs
