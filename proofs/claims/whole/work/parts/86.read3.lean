/-! ===== readers: matches, ranks, consistency ===== -/
/-- a reader that works in the match tables -/
def RX (cs : List Nat) (c : Option (Nat × Int32 × ThlS)) (m : Option (Int32 × MS)) (t : ThlS) (s : MS) : Prop := ∃ q v v' u, c = some (q, v, Thls3 t u) ∧ m = some (v', Ms12 s (iI (lawC cs q : Int))) ∧ (q = 0 ∨ q ∈ cs) ∧ (q = 0 → v = v')
theorem rx_no {cs : List Nat} {c : Option (Nat × Int32 × ThlS)} {m : Option (Int32 × MS)} {t : ThlS} {s : MS} (q : Nat) (v v' : Int32) (u : MatS) (hc : c = some (q, v, Thls3 t u)) (hq : q ≠ 0) (hm : q ∈ cs) (h : m = some (v', Ms12 s (iI (lawC cs q : Int)))) : RX cs c m t s := ⟨q, v, v', u, hc, h, .inr hm, fun e => absurd e hq⟩
theorem rx_ok {cs : List Nat} {c : Option (Nat × Int32 × ThlS)} {m : Option (Int32 × MS)} {t : ThlS} {s : MS} (v : Int32) (u : MatS) (hc : c = some (0, v, Thls3 t u)) (h : m = some (v, Ms12 s (iI 0))) : RX cs c m t s := ⟨0, v, v, u, hc, h, .inl rfl, fun _ => rfl⟩
section RD3
variable {N : Nat} {t : ThlS} {s : MS} {S : SG}
theorem c_checkAmt (N : Nat) {m : Int} (hm : -2147483648 ≤ m ∧ m < 2147483648) : fX12_checkAmount N (iI m) = some (if 1 ≤ m ∧ m ≤ 999 then 0 else 3) := by
  unfold fX12_checkAmount
  rw [show (1 : Int32) = iI 1 from rfl, show (999 : Int32) = iI 999 from rfl, c_within N hm (by omega) (by omega), xcall_s]
  by_cases h : 1 ≤ m ∧ m ≤ 999
  · rw [decide_eq_true h, if_pos h]; rfl
  · rw [decide_eq_false h, if_neg h]; rfl
theorem chS_lt (w : WG S) (m : Int) : chS S m < 1024 := by
  have h1 := choN_lt m (gB S).1 (2 ^ (gB S).1.length)
  have h2 : 2 ^ (gB S).1.length ≤ 2 ^ 10 := Nat.pow_le_pow_right (by omega) w.fr.2.2.2
  unfold chS
  omega
theorem m_isMatched (hN : 2000 ≤ N) (hM : GG s.1 S) (w : WG S) {m : Int} (hm : -2147483648 ≤ m ∧ m < 2147483648) : fX13_isMatched N (iI m) s = some (if 1 ≤ m ∧ m ≤ 999 then (iB (decide (chS S m ≠ 0)), Ms12 s (iI 0)) else (iI 0, Ms12 s (iI 1))) := by
  unfold fX13_isMatched
  rw [show (1 : Int32) = iI 1 from rfl, show (999 : Int32) = iI 999 from rfl, m_in N hm (by omega) (by omega), xcall_s]
  unfold xjoin
  dsimp only
  by_cases h : 1 ≤ m ∧ m ≤ 999
  · have hlt := chS_lt w m
    rw [decide_eq_true h, if_pos h, if_neg (show ¬ iB true = 0 by decide), if_pos rfl, m_chosen (s := Ms12 s 0) hN hM.2.2.2.2.1 w.2.2.2.2.1 h, xcall_s]
    show (if iI (chS S m : Int) ≤ 0 then _ else _) = _
    by_cases h2 : chS S m = 0
    · rw [h2, decide_eq_false (by simp)]; rfl
    · rw [if_neg (by rw [i_lit, i_le (by omega) (by omega) (by omega) (by omega)]; omega), decide_eq_true h2]; rfl
  · rw [decide_eq_false h, if_neg h]; rfl
theorem e_isMatched (hN : 2000 ≤ N) (hR : RBo t.1 S) (hM : GG s.1 S) (w : WG S) {m : Int} (hm : -2147483648 ≤ m ∧ m < 2147483648) : RX [3] (fX12_isMatched N (iI m) t) (fX13_isMatched N (iI m) s) t s ∧ RX [3] (fX12_isMatchedBySets N (iI m) t) (fX13_isMatchedBySets N (iI m) s) t s := by
  have hc := c_checkAmt N hm
  unfold fX12_isMatched fX12_isMatchedBySets fX13_isMatchedBySets
  rw [m_isMatched hN hM w hm, hc, xcall_s, xcall_s, xcall_s]
  by_cases h : 1 ≤ m ∧ m ≤ 999
  · rw [if_pos h, if_pos h]
    obtain ⟨u1, e1⟩ := c_canReach (t := t.2.2.2.1) hN hR.2.2.2.2.1 w.2.2.2.2.1 (m := m.toNat) (by omega)
    obtain ⟨u2, e2⟩ := c_hasSet (t := t.2.2.2.1) hN hR.2.2.2.2.1 w.2.2.2.2.1 h
    rw [Int.toNat_of_nonneg (by omega)] at e1
    refine ⟨rx_ok (iB (decide (chS S m ≠ 0))) u1 ?_ rfl, rx_ok (iB (decide (chS S m ≠ 0))) u2 ?_ ?_⟩
    · show xcall _ _ = _
      rw [e1, xcall_s, xnz_of xnar_b]
      rfl
    · show xcall _ _ = _
      rw [e2, xcall_s, xnz_of xnar_b]
      rfl
    · rw [xnz_of xnar_b]
  · rw [if_neg h, if_neg h]
    exact ⟨rx_no 3 0 (iI 0) t.2.2.2.1 rfl (by decide) (by decide) rfl, rx_no 3 0 (iI 0) t.2.2.2.1 rfl (by decide) (by decide) (by rw [xnz_of xnar_b0]; rfl)⟩
theorem e_matchSize (hN : 2000 ≤ N) (hR : RBo t.1 S) (hM : GG s.1 S) (w : WG S) {m : Int} (hm : -2147483648 ≤ m ∧ m < 2147483648) : RX [3, 2] (fX12_matchSize N (iI m) t) (fX13_matchSize N (iI m) s) t s := by
  have hc := c_checkAmt N hm
  have hlt := chS_lt w m
  unfold fX12_matchSize fX13_matchSize
  rw [show (1 : Int32) = iI 1 from rfl, show (999 : Int32) = iI 999 from rfl, m_in N hm (by omega) (by omega), hc, xcall_s, xcall_s]
  by_cases h : 1 ≤ m ∧ m ≤ 999
  · rw [decide_eq_true h, if_pos h, if_neg (show ¬ iB true = 0 by decide), m_chosen hN hM.2.2.2.2.1 w.2.2.2.2.1 h, xcall_s]
    obtain ⟨u, e1⟩ := c_chosenSet (t := t.2.2.2.1) hN hR.2.2.2.2.1 w.2.2.2.2.1 h
    unfold xjoin
    dsimp only
    show RX _ (xcall _ _) (if iI (chS S m : Int) = 0 then _ else _) t s
    rw [e1, xcall_s]
    show RX _ (if iI (chS S m : Int) = 0 then _ else _) _ t s
    by_cases h2 : chS S m = 0
    · rw [h2]
      exact rx_no 2 0 (iI 0) u rfl (by decide) (by decide) rfl
    · have hne : ¬ iI (chS S m : Int) = 0 := by rw [i_lit, i_eq (by omega) (by omega) (by omega) (by omega)]; omega
      rw [if_neg hne, if_neg hne]
      refine rx_ok (iI (pop 12 (chS S m))) u ?_ ?_
      · show xcall (fJ6_bitCount_0f7a4 N (iI (chS S m : Int))) _ = _
        rw [c_bitCount N (by omega), xcall_s]
      · show xcall (fX13_members N (iI (chS S m : Int))) _ = _
        rw [m_members hN hlt, xcall_s]
        rfl
  · rw [decide_eq_false h, if_neg h]
    exact rx_no 3 0 (iI 0) t.2.2.2.1 rfl (by decide) (by decide) rfl
theorem e_isConsistent (hN : 2000 ≤ N) (hR : RBo t.1 S) (w : WG S) : ∃ u, fX12_isConsistent N t = some (iI 1, Thls3 t u) ∧ fX13_isConsistent N s = some (iI 1, Ms12 s (iI 0)) := by
  obtain ⟨u1, e1⟩ := c_waysAgree (t := t.2.2.2.1) hN hR.2.2.2.2.1 w.2.2.2.2.1 (m := 50) (by omega)
  obtain ⟨u2, e2⟩ := c_waysAgree (t := u1) hN hR.2.2.2.2.1 w.2.2.2.2.1 (m := 100) (by omega)
  refine ⟨u2, ?_, rfl⟩
  have hd := deb_rng w
  unfold fX12_isConsistent
  rw [c_allDebits hN hR.1 w.wa, xcall_s, c_allCredits hN hR.1 w.wa, xcall_s]
  unfold xjoin
  dsimp only
  have hcmp : lg_cmp (iL (sumN (aD (gA S)) (aN (gA S)))) (iL (sumN (aC (gA S)) (aN (gA S)))) = 0 := by
    show _ = iI 0
    rw [← w.1.2.2.2.1, l_cmp0 (by omega) (by omega) (by omega) (by omega)]
  rw [if_pos hcmp, c_treesAgree hN hR.1 w.wa, xcall_s, if_neg (show ¬ iI 1 = 0 by decide), c_costsAgree hN hR.2.2.2.1 w.2.2.2.1, xcall_s, if_neg (show ¬ iI 1 = 0 by decide), show (50 : Int32) = iI ((50 : Nat) : Int) from rfl, e1, xcall_s, if_neg (show ¬ iI 1 = 0 by decide), show (100 : Int32) = iI ((100 : Nat) : Int) from rfl, e2, xcall_s, if_neg (show ¬ iI 1 = 0 by decide), xnz_of (show xnar .boolean 1 = true by decide)]
  rfl
/-! ranks -/
def rk (A : SA) (m i : Nat) : Int := sumN (fun o => if richB A o i = true then 1 else 0) m
theorem rich_irr (A : SA) (i : Nat) : richB A i i = false := by unfold richB; simp
theorem rich_tot (A : SA) {i j : Nat} (h : i ≠ j) (h2 : richB A i j = false) : richB A j i = true := by
  unfold richB at *
  simp only [Bool.or_eq_true, Bool.and_eq_true, decide_eq_true_eq, Bool.or_eq_false_iff, Bool.and_eq_false_iff, decide_eq_false_iff_not] at *
  omega
theorem rich_tr (A : SA) {i j k : Nat} (h : richB A i j = true) (h2 : richB A j k = true) : richB A i k = true := by
  unfold richB at *
  simp only [Bool.or_eq_true, Bool.and_eq_true, decide_eq_true_eq] at *
  omega
theorem rk_le (A : SA) (m : Nat) {i j : Nat} (h : richB A i j = true) : rk A m i ≤ rk A m j := sumN_le m fun o _ => by
  by_cases h2 : richB A o i = true
  · rw [if_pos h2, if_pos (rich_tr A h2 h)]; omega
  · rw [if_neg h2]; split <;> omega
theorem rk_lt (A : SA) {m i j : Nat} (hi : i < m) (h : richB A i j = true) : rk A m i + 1 ≤ rk A m j := by
  have e := sum_ind i 1 m
  rw [if_pos hi] at e
  have h3 := sumN_add (fun o => if richB A o i = true then 1 else 0) (fun o => if o = i then (1 : Int) else 0) m
  have h4 : sumN (fun o => (if richB A o i = true then 1 else 0) + (if o = i then (1 : Int) else 0)) m ≤ rk A m j := sumN_le m fun o _ => by
    by_cases h2 : o = i
    · subst h2
      rw [if_pos rfl, if_pos h, rich_irr]
      decide
    · rw [if_neg h2]
      by_cases h5 : richB A o i = true
      · rw [if_pos h5, if_pos (rich_tr A h5 h)]; omega
      · rw [if_neg h5]; split <;> omega
  unfold rk at *
  omega
theorem rk_rng (A : SA) {m : Nat} : ∀ i, 0 ≤ rk A m i ∧ rk A m i ≤ m := fun i => by
  refine ⟨sumN_nonneg _ fun o _ => by split <;> omega, ?_⟩
  have h := sumN_le (f := fun o => if richB A o i = true then 1 else 0) (g := fun _ => (1 : Int)) m fun o _ => by split <;> omega
  rw [sumN_const _ 1 m (fun _ _ => rfl)] at h
  unfold rk
  omega
theorem rk_lt_n (A : SA) {m i : Nat} (hi : i < m) : rk A m i ≤ m - 1 := by
  have e := sum_ind i 1 m
  rw [if_pos hi] at e
  have h3 := sumN_add (fun o => if richB A o i = true then 1 else 0) (fun o => if o = i then (1 : Int) else 0) m
  have h4 := sumN_le (f := fun o => (if richB A o i = true then 1 else 0) + (if o = i then (1 : Int) else 0)) (g := fun _ => (1 : Int)) m fun o _ => by
    by_cases h2 : o = i
    · subst h2
      rw [if_pos rfl, rich_irr]
      decide
    · rw [if_neg h2]; split <;> omega
  rw [sumN_const _ 1 m (fun _ _ => rfl)] at h4
  unfold rk
  omega
theorem rk_onto (A : SA) : ∀ m : Nat, ∀ z : Int, 0 ≤ z → z < m → ∃ i, i < m ∧ rk A m i = z := by
  intro m
  induction m with
  | zero => intro z h1 h2; omega
  | succ m ih =>
    intro z h1 h2
    have e : ∀ i, rk A (m + 1) i = rk A m i + (if richB A m i = true then 1 else 0) := fun i => rfl
    have hm := e m
    rw [rich_irr, if_neg (by decide)] at hm
    have hr := rk_rng A (m := m) m
    by_cases h3 : z = rk A m m
    · exact ⟨m, by omega, by omega⟩
    · by_cases h4 : z < rk A m m
      · obtain ⟨i, i1, i2⟩ := ih z h1 (by omega)
        refine ⟨i, by omega, ?_⟩
        rw [e i]
        by_cases h5 : richB A m i = true
        · have := rk_le A m h5
          omega
        · rw [if_neg h5]; omega
      · obtain ⟨i, i1, i2⟩ := ih (z - 1) (by omega) (by omega)
        refine ⟨i, by omega, ?_⟩
        rw [e i]
        by_cases h5 : richB A m i = true
        · rw [if_pos h5]; omega
        · have h6 := rich_tot A (i := m) (j := i) (by omega) (by simpa using h5)
          have := rk_lt A i1 h6
          omega
theorem least_of {p : Nat → Prop} {n : Nat} : ∀ i : Nat, i < n → p i → ∃ i, i < n ∧ p i ∧ ∀ j, j < i → ¬ p j := by
  intro i
  induction i using Nat.strongRecOn with
  | _ i ih =>
    intro hi hp
    by_cases h : ∃ j, j < i ∧ p j
    · obtain ⟨j, j1, j2⟩ := h
      exact ih j j1 (by omega) j2
    · exact ⟨i, hi, hp, fun j hj hpj => h ⟨j, hj, hpj⟩⟩
theorem e_byBalance (hN : 2000 ≤ N) (hR : RBo t.1 S) (hM : GG s.1 S) (w : WG S) {z : Int} (hz : -2147483648 ≤ z ∧ z < 2147483648) : RD [2] (fX12_accountByBalance N (iI z) t) (fX13_accountByBalance N (iI z) s) s := by
  have hn := w.1.2.1
  unfold fX12_accountByBalance
  rw [hR.1.2.1, show (1 : Int32) = iI 1 from rfl, i_sub, show (0 : Int32) = iI 0 from rfl, c_within N hz (by omega) (by omega), xcall_s]
  by_cases h : 0 ≤ z ∧ z ≤ (aN (gA S) : Int) - 1
  · rw [decide_eq_true h, if_neg (show ¬ iB true = iI 0 by decide)]
    obtain ⟨i, i1, i2⟩ := rk_onto (gA S) (aN (gA S)) z (by omega) (by omega)
    obtain ⟨k, k1, k2, k3⟩ := least_of (p := fun i => sRank (gA S) i = z) (n := aN (gA S)) i i1 i2
    refine rd_ok (iI (k : Int)) ?_ (m_accountByBalance hN hM.1 w.wa hz k k3 k1 k2)
    rw [c_accountAtRank hN hR.1 w.wa hz k k3 k1 k2, xcall_s]
  · rw [decide_eq_false h, if_pos (show iB false = iI 0 by decide)]
    refine rd_no 2 0 (iI 0) rfl (by decide) (by decide) (m_accountByBalance_no hN hM.1 w.wa hz fun j hj hh => ?_)
    have h1 := rk_rng (gA S) (m := aN (gA S)) j
    have h2 := rk_lt_n (gA S) hj
    have e : sRank (gA S) j = rk (gA S) (aN (gA S)) j := rfl
    omega
end RD3
