/-! ===== one call of the law: the invariant, and that both sides answer alike ===== -/
def IV (n : Nat) (t : ThlS) (r : Nat → BooS) (s : MS) : Prop := ∃ W a b, RT t r W ∧ RM s W ∧ WO a b W ∧ a + b + (oT W).length ≤ n
def ST4 {α : Type} (cs : List Nat) (n : Nat) (c : Option (Nat × α × ThlS × (Nat → BooS))) (m : Option (α × MS)) : Prop := ∃ k v v' t' r' s', c = some (k, v, t', r') ∧ m = some (v', s') ∧ s'.2.2.2.2.2.2.2.2.2.2.2.2.1 = iI (lawC cs k : Int) ∧ (k = 0 ∨ k ∈ cs) ∧ (k = 0 → v = v') ∧ IV (n + 1) t' r' s'
def ST3 {α : Type} (cs : List Nat) (n : Nat) (r : Nat → BooS) (c : Option (Nat × α × ThlS)) (m : Option (α × MS)) : Prop := ∃ k v v' t' s', c = some (k, v, t') ∧ m = some (v', s') ∧ s'.2.2.2.2.2.2.2.2.2.2.2.2.1 = iI (lawC cs k : Int) ∧ (k = 0 ∨ k ∈ cs) ∧ (k = 0 → v = v') ∧ IV (n + 1) t' r s'
def ST2 {α : Type} (cs : List Nat) (n : Nat) (t : ThlS) (r : Nat → BooS) (c : Option (Nat × α)) (m : Option (α × MS)) : Prop := ∃ k v v' s', c = some (k, v) ∧ m = some (v', s') ∧ s'.2.2.2.2.2.2.2.2.2.2.2.2.1 = iI (lawC cs k : Int) ∧ (k = 0 ∨ k ∈ cs) ∧ (k = 0 → v = v') ∧ IV (n + 1) t r s'
def S04 {α : Type} (n : Nat) (c : Option (α × ThlS × (Nat → BooS))) (m : Option (α × MS)) : Prop := ∃ v t' r' s', c = some (v, t', r') ∧ m = some (v, s') ∧ IV (n + 1) t' r' s'
def S03 {α : Type} (n : Nat) (r : Nat → BooS) (c : Option (α × ThlS)) (m : Option (α × MS)) : Prop := ∃ v t' s', c = some (v, t') ∧ m = some (v, s') ∧ IV (n + 1) t' r s'
def S02 {α : Type} (n : Nat) (t : ThlS) (r : Nat → BooS) (c : Option α) (m : Option (α × MS)) : Prop := ∃ v s', c = some v ∧ m = some (v, s') ∧ IV (n + 1) t r s'
section SV
variable {N n : Nat} {t : ThlS} {r : Nat → BooS} {s : MS} {W : SO} {a b : Nat}
theorem IV.more {m : Nat} (h : IV n t r s) (hm : n ≤ m) : IV m t r s := by
  obtain ⟨W, a, b, h1, h2, h3, h4⟩ := h
  exact ⟨W, a, b, h1, h2, h3, by omega⟩
theorem sc_st {cs : List Nat} {c : Option (Nat × Int32 × ThlS × (Nat → BooS))} {m : Option (Int32 × MS)} (h : SC cs W a b c m) (hu : a + b + (oT W).length ≤ n) : ST4 cs n c m := by
  obtain ⟨q, v, v', t, r, s, W', h1, h2, h3, h4, h5, h6, h7, ⟨a', b', h8, h9⟩, h10⟩ := h
  have e : oT W' = oT W := by unfold oT; rw [h10]
  exact ⟨q, v, v', t, r, s, h1, h2, h3, h4, h5, W', a', b', h6, h7, h9, by rw [e]; omega⟩
theorem rd_st {α : Type} {cs : List Nat} {c : Option (Nat × α)} {m : Option (α × MS)} (h : RD cs c m s) (hR : RT t r W) (hM : RM s W) (hw : WO a b W) (hu : a + b + (oT W).length ≤ n) : ST2 cs n t r c m := by
  obtain ⟨q, v, v', h1, h2, h3, h4⟩ := h
  exact ⟨q, v, v', _, h1, h2, rfl, h3, h4, W, a, b, hR, hM, hw, by omega⟩
theorem rx_st {cs : List Nat} {c : Option (Nat × Int32 × ThlS)} {m : Option (Int32 × MS)} (h : RX cs c m t s) (hR : RT t r W) (hM : RM s W) (hw : WO a b W) (hu : a + b + (oT W).length ≤ n) : ST3 cs n r c m := by
  obtain ⟨q, v, v', u, h1, h2, h3, h4⟩ := h
  exact ⟨q, v, v', _, _, h1, h2, rfl, h3, h4, W, a, b, hR, hM, hw, by omega⟩
theorem r0_st {α : Type} {c : Option α} {m : Option (α × MS)} (h : R0 c m s) (hR : RT t r W) (hM : RM s W) (hw : WO a b W) (hu : a + b + (oT W).length ≤ n) : S02 n t r c m := by
  obtain ⟨v, h1, h2⟩ := h
  exact ⟨v, _, h1, h2, W, a, b, hR, hM, hw, by omega⟩
theorem chr_rng (x : Int32) : ∃ z : Int, ((Int32.toUInt32 x) % 65536).toInt32 = iI z ∧ isCh z := by
  refine ⟨((x.toUInt32 % 65536).toNat : Int), ?_, Int.natCast_nonneg _, ?_⟩
  · generalize x.toUInt32 % 65536 = y
    show y.toInt32 = Int32.ofInt (y.toNat : Int)
    rw [Int32.ofInt_eq_ofNat]
    refine Int32.toBitVec.inj ?_
    refine BitVec.eq_of_toNat_eq ?_
    show y.toNat = (BitVec.ofNat 32 y.toNat).toNat
    rw [BitVec.toNat_ofNat]
    exact (Nat.mod_eq_of_lt y.toBitVec.isLt).symm
  · rw [UInt32.toNat_mod]
    have := Nat.mod_lt x.toUInt32.toNat (show 0 < 65536 by decide)
    show ((x.toUInt32.toNat % 65536 : Nat) : Int) < 65536
    omega
theorem lawC_nz {cs : List Nat} {k : Nat} (hk : k ≠ 0) (hl : cs.length < 1000) : iI (lawC cs k : Int) ≠ 0 := by
  unfold lawC
  rw [if_neg hk]
  have h1 : cs.idxOf k ≤ cs.length := List.idxOf_le_length
  intro h
  rw [show (0 : Int32) = iI 0 from rfl, i_eq (by omega) (by omega) (by omega) (by omega)] at h
  omega
theorem st_open (hN : 2000 ≤ N) (hI : IV n t r s) (hn : n + 1 ≤ 512) (x1 : Int32) : ST4 [3, 4] n (fX12_open N x1 t r) (fX13_open N x1 s) := by
  obtain ⟨W, a, b, hR, hM, hw, hu⟩ := hI
  obtain ⟨z1, rfl, h1⟩ := i_of' x1
  exact sc_st (s_open hN hR hM hw h1) hu
theorem st_openBelow (hN : 2000 ≤ N) (hI : IV n t r s) (hn : n + 1 ≤ 512) (x1 : Int32) : ST4 [1, 4] n (fX12_openBelow N x1 t r) (fX13_openBelow N x1 s) := by
  obtain ⟨W, a, b, hR, hM, hw, hu⟩ := hI
  obtain ⟨z1, rfl, h1⟩ := i_of' x1
  exact sc_st (s_openB hN hR hM hw h1) hu
theorem st_post (hN : 2000 ≤ N) (hI : IV n t r s) (hn : n + 1 ≤ 512) (x1 x2 x3 : Int32) : ST4 [1, 3] n (fX12_post N x1 x2 x3 t r) (fX13_post N x1 x2 x3 s) := by
  obtain ⟨W, a, b, hR, hM, hw, hu⟩ := hI
  obtain ⟨z1, rfl, h1⟩ := i_of' x1
  obtain ⟨z2, rfl, h2⟩ := i_of' x2
  obtain ⟨z3, rfl, h3⟩ := i_of' x3
  exact sc_st (s_post hN hR hM hw (by omega) h1 h2 h3) hu
theorem st_reverse (hN : 2000 ≤ N) (hI : IV n t r s) (hn : n + 1 ≤ 512) (x1 : Int32) : ST4 [2, 4] n (fX12_reverse N x1 t r) (fX13_reverse N x1 s) := by
  obtain ⟨W, a, b, hR, hM, hw, hu⟩ := hI
  obtain ⟨z1, rfl, h1⟩ := i_of' x1
  exact sc_st (s_reverse hN hR hM hw (by omega) h1) hu
theorem st_prompt (hN : 2000 ≤ N) (hI : IV n t r s) (hn : n + 1 ≤ 512) (x1 x2 x3 x4 x5 : Int32) : ST4 [1, 3, 4] n (fX12_prompt N x1 x2 x3 x4 x5 t r) (fX13_prompt N x1 x2 x3 x4 x5 s) := by
  obtain ⟨W, a, b, hR, hM, hw, hu⟩ := hI
  obtain ⟨z1, rfl, h1⟩ := i_of' x1
  obtain ⟨z2, rfl, h2⟩ := i_of' x2
  obtain ⟨z3, rfl, h3⟩ := i_of' x3
  obtain ⟨z4, rfl, h4⟩ := i_of' x4
  obtain ⟨z5, rfl, h5⟩ := i_of' x5
  exact sc_st (s_prompt hN hR hM hw (by omega) h1 h2 h3 h4 h5) hu
theorem st_cancelPrompt (hN : 2000 ≤ N) (hI : IV n t r s) (hn : n + 1 ≤ 512) (x1 : Int32) : ST4 [1] n (fX12_cancelPrompt N x1 t r) (fX13_cancelPrompt N x1 s) := by
  obtain ⟨W, a, b, hR, hM, hw, hu⟩ := hI
  obtain ⟨z1, rfl, h1⟩ := i_of' x1
  exact sc_st (s_cancel hN hR hM hw (by omega) h1) hu
theorem st_passHours (hN : 2000 ≤ N) (hI : IV n t r s) (hn : n + 1 ≤ 512) (x1 : Int32) : ST4 [3] n (fX12_passHours N x1 t r) (fX13_passHours N x1 s) := by
  obtain ⟨W, a, b, hR, hM, hw, hu⟩ := hI
  obtain ⟨z1, rfl, h1⟩ := i_of' x1
  exact sc_st (s_pass hN hR hM hw (by omega) h1) hu
theorem st_buy (hN : 2000 ≤ N) (hI : IV n t r s) (hn : n + 1 ≤ 512) (x1 x2 : Int32) : ST4 [3, 4, 5] n (fX12_buy N x1 x2 t r) (fX13_buy N x1 x2 s) := by
  obtain ⟨W, a, b, hR, hM, hw, hu⟩ := hI
  obtain ⟨z1, rfl, h1⟩ := i_of' x1
  obtain ⟨z2, rfl, h2⟩ := i_of' x2
  exact sc_st (s_buy hN hR hM hw (by omega) h1 h2) hu
theorem st_sell (hN : 2000 ≤ N) (hI : IV n t r s) (hn : n + 1 ≤ 512) (x1 x2 : Int32) : ST4 [3, 4] n (fX12_sell N x1 x2 t r) (fX13_sell N x1 x2 s) := by
  obtain ⟨W, a, b, hR, hM, hw, hu⟩ := hI
  obtain ⟨z1, rfl, h1⟩ := i_of' x1
  obtain ⟨z2, rfl, h2⟩ := i_of' x2
  exact sc_st (s_sell hN hR hM hw (by omega) h1 h2) hu
theorem st_bill (hN : 2000 ≤ N) (hI : IV n t r s) (hn : n + 1 ≤ 512) (x1 : Int32) : ST4 [3, 4] n (fX12_bill N x1 t r) (fX13_bill N x1 s) := by
  obtain ⟨W, a, b, hR, hM, hw, hu⟩ := hI
  obtain ⟨z1, rfl, h1⟩ := i_of' x1
  exact sc_st (s_bill hN hR hM hw (by omega) h1) hu
theorem st_pay (hN : 2000 ≤ N) (hI : IV n t r s) (hn : n + 1 ≤ 512) (x1 : Int32) : ST4 [3, 4] n (fX12_pay N x1 t r) (fX13_pay N x1 s) := by
  obtain ⟨W, a, b, hR, hM, hw, hu⟩ := hI
  obtain ⟨z1, rfl, h1⟩ := i_of' x1
  exact sc_st (s_pay hN hR hM hw (by omega) h1) hu
theorem st_undo (hN : 2000 ≤ N) (hI : IV n t r s) (hn : n + 1 ≤ 512) : ST4 [4] n (fX12_undo N t r) (fX13_undo N s) := by
  obtain ⟨W, a, b, hR, hM, hw, hu⟩ := hI
  exact sc_st (s_undo hN hR hM hw) hu
theorem st_kind (hN : 2000 ≤ N) (hI : IV n t r s) (hn : n + 1 ≤ 512) (x1 : Int32) : ST2 [1] n t r (fX12_kind N x1 t) (fX13_kind N x1 s) := by
  obtain ⟨W, a, b, hR, hM, hw, hu⟩ := hI
  obtain ⟨z1, rfl, h1⟩ := i_of' x1
  exact rd_st (e_kind hR.1 hM.1 hw.1.1 h1) hR hM hw hu
theorem st_parent (hN : 2000 ≤ N) (hI : IV n t r s) (hn : n + 1 ≤ 512) (x1 : Int32) : ST2 [1, 2] n t r (fX12_parent N x1 t) (fX13_parent N x1 s) := by
  obtain ⟨W, a, b, hR, hM, hw, hu⟩ := hI
  obtain ⟨z1, rfl, h1⟩ := i_of' x1
  exact rd_st (e_parent hR.1 hM.1 hw.1.1 h1) hR hM hw hu
theorem st_debits (hN : 2000 ≤ N) (hI : IV n t r s) (hn : n + 1 ≤ 512) (x1 : Int32) : ST2 [1] n t r (fX12_debits N x1 t) (fX13_debits N x1 s) := by
  obtain ⟨W, a, b, hR, hM, hw, hu⟩ := hI
  obtain ⟨z1, rfl, h1⟩ := i_of' x1
  exact rd_st (e_debits hR.1 hM.1 hw.1.1 h1) hR hM hw hu
theorem st_credits (hN : 2000 ≤ N) (hI : IV n t r s) (hn : n + 1 ≤ 512) (x1 : Int32) : ST2 [1] n t r (fX12_credits N x1 t) (fX13_credits N x1 s) := by
  obtain ⟨W, a, b, hR, hM, hw, hu⟩ := hI
  obtain ⟨z1, rfl, h1⟩ := i_of' x1
  exact rd_st (e_credits hR.1 hM.1 hw.1.1 h1) hR hM hw hu
theorem st_balance (hN : 2000 ≤ N) (hI : IV n t r s) (hn : n + 1 ≤ 512) (x1 : Int32) : ST2 [1] n t r (fX12_balance N x1 t) (fX13_balance N x1 s) := by
  obtain ⟨W, a, b, hR, hM, hw, hu⟩ := hI
  obtain ⟨z1, rfl, h1⟩ := i_of' x1
  exact rd_st (e_balance hR.1 hM.1 hw.1.1 h1) hR hM hw hu
theorem st_treeBalance (hN : 2000 ≤ N) (hI : IV n t r s) (hn : n + 1 ≤ 512) (x1 : Int32) : ST2 [1] n t r (fX12_treeBalance N x1 t) (fX13_treeBalance N x1 s) := by
  obtain ⟨W, a, b, hR, hM, hw, hu⟩ := hI
  obtain ⟨z1, rfl, h1⟩ := i_of' x1
  exact rd_st (e_treeBalance hN hR.1 hM.1 hw.1.1 h1).1 hR hM hw hu
theorem st_treeBalanceByParents (hN : 2000 ≤ N) (hI : IV n t r s) (hn : n + 1 ≤ 512) (x1 : Int32) : ST2 [1] n t r (fX12_treeBalanceByParents N x1 t) (fX13_treeBalanceByParents N x1 s) := by
  obtain ⟨W, a, b, hR, hM, hw, hu⟩ := hI
  obtain ⟨z1, rfl, h1⟩ := i_of' x1
  exact rd_st (e_treeBalance hN hR.1 hM.1 hw.1.1 h1).2 hR hM hw hu
theorem st_treeSize (hN : 2000 ≤ N) (hI : IV n t r s) (hn : n + 1 ≤ 512) (x1 : Int32) : ST2 [1] n t r (fX12_treeSize N x1 t) (fX13_treeSize N x1 s) := by
  obtain ⟨W, a, b, hR, hM, hw, hu⟩ := hI
  obtain ⟨z1, rfl, h1⟩ := i_of' x1
  exact rd_st (e_treeSize hN hR.1 hM.1 hw.1.1 h1) hR hM hw hu
theorem st_entryAt (hN : 2000 ≤ N) (hI : IV n t r s) (hn : n + 1 ≤ 512) (x1 : Int32) : ST2 [2] n t r (fX12_entryAt N x1 t) (fX13_entryAt N x1 s) := by
  obtain ⟨W, a, b, hR, hM, hw, hu⟩ := hI
  obtain ⟨z1, rfl, h1⟩ := i_of' x1
  exact rd_st (e_entryAt hR.1 hM.1 hw.1.1 h1) hR hM hw hu
theorem st_debitOf (hN : 2000 ≤ N) (hI : IV n t r s) (hn : n + 1 ≤ 512) (x1 : Int32) : ST2 [2] n t r (fX12_debitOf N x1 t) (fX13_debitOf N x1 s) := by
  obtain ⟨W, a, b, hR, hM, hw, hu⟩ := hI
  obtain ⟨z1, rfl, h1⟩ := i_of' x1
  exact rd_st (e_debitOf hR.1 hM.1 hw.1.1 h1) hR hM hw hu
theorem st_creditOf (hN : 2000 ≤ N) (hI : IV n t r s) (hn : n + 1 ≤ 512) (x1 : Int32) : ST2 [2] n t r (fX12_creditOf N x1 t) (fX13_creditOf N x1 s) := by
  obtain ⟨W, a, b, hR, hM, hw, hu⟩ := hI
  obtain ⟨z1, rfl, h1⟩ := i_of' x1
  exact rd_st (e_creditOf hR.1 hM.1 hw.1.1 h1) hR hM hw hu
theorem st_amountOf (hN : 2000 ≤ N) (hI : IV n t r s) (hn : n + 1 ≤ 512) (x1 : Int32) : ST2 [2] n t r (fX12_amountOf N x1 t) (fX13_amountOf N x1 s) := by
  obtain ⟨W, a, b, hR, hM, hw, hu⟩ := hI
  obtain ⟨z1, rfl, h1⟩ := i_of' x1
  exact rd_st (e_amountOf hR.1 hM.1 hw.1.1 h1) hR hM hw hu
theorem st_hourOf (hN : 2000 ≤ N) (hI : IV n t r s) (hn : n + 1 ≤ 512) (x1 : Int32) : ST2 [2] n t r (fX12_hourOf N x1 t) (fX13_hourOf N x1 s) := by
  obtain ⟨W, a, b, hR, hM, hw, hu⟩ := hI
  obtain ⟨z1, rfl, h1⟩ := i_of' x1
  exact rd_st (e_hourOf hR.1 hM.1 hw.1.1 h1) hR hM hw hu
theorem st_isReversed (hN : 2000 ≤ N) (hI : IV n t r s) (hn : n + 1 ≤ 512) (x1 : Int32) : ST2 [2] n t r (fX12_isReversed N x1 t) (fX13_isReversed N x1 s) := by
  obtain ⟨W, a, b, hR, hM, hw, hu⟩ := hI
  obtain ⟨z1, rfl, h1⟩ := i_of' x1
  exact rd_st (e_isReversed hR.1 hM.1 hw.1.1 h1) hR hM hw hu
theorem st_hoursUntilPrompt (hN : 2000 ≤ N) (hI : IV n t r s) (hn : n + 1 ≤ 512) (x1 : Int32) : ST2 [1] n t r (fX12_hoursUntilPrompt N x1 t) (fX13_hoursUntilPrompt N x1 s) := by
  obtain ⟨W, a, b, hR, hM, hw, hu⟩ := hI
  obtain ⟨z1, rfl, h1⟩ := i_of' x1
  exact rd_st (e_hoursUntil hR.1 hM.1 hw.1.1 h1) hR hM hw hu
theorem st_timesLeft (hN : 2000 ≤ N) (hI : IV n t r s) (hn : n + 1 ≤ 512) (x1 : Int32) : ST2 [1] n t r (fX12_timesLeft N x1 t) (fX13_timesLeft N x1 s) := by
  obtain ⟨W, a, b, hR, hM, hw, hu⟩ := hI
  obtain ⟨z1, rfl, h1⟩ := i_of' x1
  exact rd_st (e_timesLeft hR.1 hM.1 hw.1.1 h1) hR hM hw hu
theorem st_cashIn (hN : 2000 ≤ N) (hI : IV n t r s) (hn : n + 1 ≤ 512) (x1 : Int32) : ST2 [3] n t r (fX12_cashIn N x1 t) (fX13_cashIn N x1 s) := by
  obtain ⟨W, a, b, hR, hM, hw, hu⟩ := hI
  obtain ⟨z1, rfl, h1⟩ := i_of' x1
  exact rd_st (e_cashIn hN hR.1 hM.1 hw.1.1 h1) hR hM hw hu
theorem st_costOf (hN : 2000 ≤ N) (hI : IV n t r s) (hn : n + 1 ≤ 512) (x1 : Int32) : ST2 [3, 4] n t r (fX12_costOf N x1 t) (fX13_costOf N x1 s) := by
  obtain ⟨W, a, b, hR, hM, hw, hu⟩ := hI
  obtain ⟨z1, rfl, h1⟩ := i_of' x1
  exact rd_st (e_costs hN hR.1 hM.1 hw.1.1 h1).1 hR hM hw hu
theorem st_costByCostumes (hN : 2000 ≤ N) (hI : IV n t r s) (hn : n + 1 ≤ 512) (x1 : Int32) : ST2 [3, 4] n t r (fX12_costByCostumes N x1 t) (fX13_costByCostumes N x1 s) := by
  obtain ⟨W, a, b, hR, hM, hw, hu⟩ := hI
  obtain ⟨z1, rfl, h1⟩ := i_of' x1
  exact rd_st (e_costs hN hR.1 hM.1 hw.1.1 h1).2 hR hM hw hu
theorem st_billAt (hN : 2000 ≤ N) (hI : IV n t r s) (hn : n + 1 ≤ 512) (x1 : Int32) : ST2 [2] n t r (fX12_billAt N x1 t) (fX13_billAt N x1 s) := by
  obtain ⟨W, a, b, hR, hM, hw, hu⟩ := hI
  obtain ⟨z1, rfl, h1⟩ := i_of' x1
  exact rd_st (e_billAt hR.1 hM.1 hw.1.1 h1) hR hM hw hu
theorem st_openAmount (hN : 2000 ≤ N) (hI : IV n t r s) (hn : n + 1 ≤ 512) (x1 : Int32) : ST2 [2] n t r (fX12_openAmount N x1 t) (fX13_openAmount N x1 s) := by
  obtain ⟨W, a, b, hR, hM, hw, hu⟩ := hI
  obtain ⟨z1, rfl, h1⟩ := i_of' x1
  exact rd_st (e_openAmount hN hR.1 hM.1 hw.1.1 h1) hR hM hw hu
theorem st_accountByBalance (hN : 2000 ≤ N) (hI : IV n t r s) (hn : n + 1 ≤ 512) (x1 : Int32) : ST2 [2] n t r (fX12_accountByBalance N x1 t) (fX13_accountByBalance N x1 s) := by
  obtain ⟨W, a, b, hR, hM, hw, hu⟩ := hI
  obtain ⟨z1, rfl, h1⟩ := i_of' x1
  exact rd_st (e_byBalance hN hR.1 hM.1 hw.1.1 h1) hR hM hw hu
theorem st_errorPosition (hN : 2000 ≤ N) (hI : IV n t r s) (hn : n + 1 ≤ 512) : ST2 [2] n t r (fX12_errorPosition N t) (fX13_errorPosition N s) := by
  obtain ⟨W, a, b, hR, hM, hw, hu⟩ := hI
  exact rd_st (e_errorPos hR hM hw) hR hM hw hu
theorem st_failedCommand (hN : 2000 ≤ N) (hI : IV n t r s) (hn : n + 1 ≤ 512) : ST2 [2] n t r (fX12_failedCommand N t) (fX13_failedCommand N s) := by
  obtain ⟨W, a, b, hR, hM, hw, hu⟩ := hI
  exact rd_st (e_failed hR hM hw) hR hM hw hu
theorem st_outputChar (hN : 2000 ≤ N) (hI : IV n t r s) (hn : n + 1 ≤ 512) (x1 : Int32) : ST2 [1] n t r (fX12_outputChar N x1 t) (fX13_outputChar N x1 s) := by
  obtain ⟨W, a, b, hR, hM, hw, hu⟩ := hI
  obtain ⟨z1, rfl, h1⟩ := i_of' x1
  exact rd_st (e_outputChar hR hM hw h1) hR hM hw hu
theorem st_isMatched (hN : 2000 ≤ N) (hI : IV n t r s) (hn : n + 1 ≤ 512) (x1 : Int32) : ST3 [3] n r (fX12_isMatched N x1 t) (fX13_isMatched N x1 s) := by
  obtain ⟨W, a, b, hR, hM, hw, hu⟩ := hI
  obtain ⟨z1, rfl, h1⟩ := i_of' x1
  exact rx_st (e_isMatched hN hR.1 hM.1 hw.1.1 h1).1 hR hM hw hu
theorem st_isMatchedBySets (hN : 2000 ≤ N) (hI : IV n t r s) (hn : n + 1 ≤ 512) (x1 : Int32) : ST3 [3] n r (fX12_isMatchedBySets N x1 t) (fX13_isMatchedBySets N x1 s) := by
  obtain ⟨W, a, b, hR, hM, hw, hu⟩ := hI
  obtain ⟨z1, rfl, h1⟩ := i_of' x1
  exact rx_st (e_isMatched hN hR.1 hM.1 hw.1.1 h1).2 hR hM hw hu
theorem st_matchSize (hN : 2000 ≤ N) (hI : IV n t r s) (hn : n + 1 ≤ 512) (x1 : Int32) : ST3 [3, 2] n r (fX12_matchSize N x1 t) (fX13_matchSize N x1 s) := by
  obtain ⟨W, a, b, hR, hM, hw, hu⟩ := hI
  obtain ⟨z1, rfl, h1⟩ := i_of' x1
  exact rx_st (e_matchSize hN hR.1 hM.1 hw.1.1 h1) hR hM hw hu
theorem st_isInMatch (hN : 2000 ≤ N) (hI : IV n t r s) (hn : n + 1 ≤ 512) (x1 x2 : Int32) : ST3 [2, 3, 4] n r (fX12_isInMatch N x1 x2 t) (fX13_isInMatch N x1 x2 s) := by
  obtain ⟨W, a, b, hR, hM, hw, hu⟩ := hI
  obtain ⟨z1, rfl, h1⟩ := i_of' x1
  obtain ⟨z2, rfl, h2⟩ := i_of' x2
  exact rx_st (e_isInMatch hN hR.1 hM.1 hw.1.1 h1 h2) hR hM hw hu
theorem st_hour (hN : 2000 ≤ N) (hI : IV n t r s) (hn : n + 1 ≤ 512) : S02 n t r (fX12_hour N t) (fX13_hour N s) := by
  obtain ⟨W, a, b, hR, hM, hw, hu⟩ := hI
  exact r0_st (e_hour hR.1 hM.1) hR hM hw hu
theorem st_accountCount (hN : 2000 ≤ N) (hI : IV n t r s) (hn : n + 1 ≤ 512) : S02 n t r (fX12_accountCount N t) (fX13_accountCount N s) := by
  obtain ⟨W, a, b, hR, hM, hw, hu⟩ := hI
  exact r0_st (e_accountCount hR.1 hM.1) hR hM hw hu
theorem st_sumOfDebits (hN : 2000 ≤ N) (hI : IV n t r s) (hn : n + 1 ≤ 512) : S02 n t r (fX12_sumOfDebits N t) (fX13_sumOfDebits N s) := by
  obtain ⟨W, a, b, hR, hM, hw, hu⟩ := hI
  exact r0_st (e_sumOfDebits hN hR.1 hM.1 hw.1.1) hR hM hw hu
theorem st_sumOfCredits (hN : 2000 ≤ N) (hI : IV n t r s) (hn : n + 1 ≤ 512) : S02 n t r (fX12_sumOfCredits N t) (fX13_sumOfCredits N s) := by
  obtain ⟨W, a, b, hR, hM, hw, hu⟩ := hI
  exact r0_st (e_sumOfCredits hN hR.1 hM.1 hw.1.1) hR hM hw hu
theorem st_profit (hN : 2000 ≤ N) (hI : IV n t r s) (hn : n + 1 ≤ 512) : S02 n t r (fX12_profit N t) (fX13_profit N s) := by
  obtain ⟨W, a, b, hR, hM, hw, hu⟩ := hI
  exact r0_st (e_profit hN hR.1 hM.1 hw.1.1) hR hM hw hu
theorem st_entryCount (hN : 2000 ≤ N) (hI : IV n t r s) (hn : n + 1 ≤ 512) : S02 n t r (fX12_entryCount N t) (fX13_entryCount N s) := by
  obtain ⟨W, a, b, hR, hM, hw, hu⟩ := hI
  exact r0_st (e_entryCount hR.1 hM.1 hw.1.1) hR hM hw hu
theorem st_promptCount (hN : 2000 ≤ N) (hI : IV n t r s) (hn : n + 1 ≤ 512) : S02 n t r (fX12_promptCount N t) (fX13_promptCount N s) := by
  obtain ⟨W, a, b, hR, hM, hw, hu⟩ := hI
  exact r0_st (e_promptCount hR.1 hM.1) hR hM hw hu
theorem st_costumeCount (hN : 2000 ≤ N) (hI : IV n t r s) (hn : n + 1 ≤ 512) : S02 n t r (fX12_costumeCount N t) (fX13_costumeCount N s) := by
  obtain ⟨W, a, b, hR, hM, hw, hu⟩ := hI
  exact r0_st (e_costumeCount hN hR.1 hM.1 hw.1.1) hR hM hw hu
theorem st_lotCount (hN : 2000 ≤ N) (hI : IV n t r s) (hn : n + 1 ≤ 512) : S02 n t r (fX12_lotCount N t) (fX13_lotCount N s) := by
  obtain ⟨W, a, b, hR, hM, hw, hu⟩ := hI
  exact r0_st (e_lotCount hR.1 hM.1) hR hM hw hu
theorem st_billCount (hN : 2000 ≤ N) (hI : IV n t r s) (hn : n + 1 ≤ 512) : S02 n t r (fX12_billCount N t) (fX13_billCount N s) := by
  obtain ⟨W, a, b, hR, hM, hw, hu⟩ := hI
  exact r0_st (e_billCount hR.1 hM.1) hR hM hw hu
theorem st_openTotal (hN : 2000 ≤ N) (hI : IV n t r s) (hn : n + 1 ≤ 512) : S02 n t r (fX12_openTotal N t) (fX13_openTotal N s) := by
  obtain ⟨W, a, b, hR, hM, hw, hu⟩ := hI
  exact r0_st (e_openTotal hN hR.1 hM.1 hw.1.1) hR hM hw hu
theorem st_curtainCount (hN : 2000 ≤ N) (hI : IV n t r s) (hn : n + 1 ≤ 512) : S02 n t r (fX12_curtainCount N t) (fX13_curtainCount N s) := by
  obtain ⟨W, a, b, hR, hM, hw, hu⟩ := hI
  exact r0_st (e_curtainCount hR.1 hM.1) hR hM hw hu
theorem st_undoCount (hN : 2000 ≤ N) (hI : IV n t r s) (hn : n + 1 ≤ 512) : S02 n t r (fX12_undoCount N t) (fX13_undoCount N s) := by
  obtain ⟨W, a, b, hR, hM, hw, hu⟩ := hI
  exact r0_st (e_undoCount hR hM) hR hM hw hu
theorem st_runCommands (hN : 2000 ≤ N) (hI : IV n t r s) (hn : n + 1 ≤ 512) : ST4 [3, 5] n (fX12_runCommands N t r) (fX13_runCommands N s) := by
  obtain ⟨W, a, b, hR, hM, hw, hu⟩ := hI
  obtain ⟨q, v, v', t', r', s', W', h1, h2, h3, h4, h5, h6, h7, a', b', h8, h9⟩ := s_run hN hR hM hw (by omega)
  exact ⟨q, v, v', t', r', s', h1, h2, h3, h4, h5, W', a', b', h6, h7, h9, by omega⟩
theorem st_feed (hN : 2000 ≤ N) (hI : IV n t r s) (hn : n + 1 ≤ 512) (x1 : Int32) : ST3 [4] n r (fX12_feed N (((Int32.toUInt32 x1) % 65536).toInt32) t) (fX13_feed N (((Int32.toUInt32 x1) % 65536).toInt32) s) := by
  obtain ⟨W, a, b, hR, hM, hw, hu⟩ := hI
  obtain ⟨z, hz, hc⟩ := chr_rng x1
  rw [hz]
  obtain ⟨q, v, v', t', s', W', h1, h2, h3, h4, h5, h6, h7, h8, h9⟩ := s_feed (N := N) hR hM hw hc
  exact ⟨q, v, v', t', s', h1, h2, h3, h4, h5, W', a, b, h6, h7, h8, by omega⟩
theorem st_writeEntry (hN : 2000 ≤ N) (hI : IV n t r s) (hn : n + 1 ≤ 512) (x1 : Int32) : ST3 [2] n r (fX12_writeEntry N x1 t) (fX13_writeEntry N x1 s) := by
  obtain ⟨W, a, b, hR, hM, hw, hu⟩ := hI
  obtain ⟨z, rfl, hz⟩ := i_of' x1
  obtain ⟨q, v, v', t', s', W', h1, h2, h3, h4, h5, h6, h7, h8, h9⟩ := s_writeEntry hN hR hM hw hz
  exact ⟨q, v, v', t', s', h1, h2, h3, h4, h5, W', a, b, h6, h7, h8, by rw [h9]; omega⟩
theorem st_restore (hN : 2000 ≤ N) (hI : IV n t r s) (hn : n + 1 ≤ 512) : ST3 [4] n r (fX12_restore N t) (fX13_restore N s) := by
  obtain ⟨W, a, b, hR, hM, hw, hu⟩ := hI
  obtain ⟨q, v, v', t', r', s', h1, h2, h3, h4, h5, h6⟩ := sc_st (s_restore hN hR hM hw) hu
  cases hc : fX12_restore N t with
  | none => rw [hc] at h1; exact absurd h1 (by intro h; cases h)
  | some p =>
    rw [hc] at h1
    obtain ⟨p1, p2, p3⟩ := p
    have h1 : some (p1, p2, p3, r) = some (q, v, t', r') := h1
    have h1 := Option.some.inj h1
    cases h1
    exact ⟨q, v, v', t', s', rfl, h2, h3, h4, h5, h6⟩
theorem st_curtain (hN : 2000 ≤ N) (hI : IV n t r s) (hn : n + 1 ≤ 512) : S04 n (fX12_curtain N t r) (fX13_curtain N s) := by
  obtain ⟨W, a, b, hR, hM, hw, hu⟩ := hI
  obtain ⟨t', r', v, s', W', h1, h2, h3, h4, ⟨a', b', h5, h6⟩, h7⟩ := s_curtain hN hR hM hw (by omega)
  have e : oT W' = oT W := by unfold oT; rw [h7]
  exact ⟨v, t', r', s', h1, h2, W', a', b', h3, h4, h6, by rw [e]; omega⟩
theorem st_save (hN : 2000 ≤ N) (hI : IV n t r s) (hn : n + 1 ≤ 512) : S03 n r (fX12_save N t) (fX13_save N s) := by
  obtain ⟨W, a, b, hR, hM, hw, hu⟩ := hI
  obtain ⟨v, t', s', h1, h2, h3, h4, h5, h6⟩ := s_save hN hR hM hw
  have e : (oT (oS W, oH W, some (oS W), W.2.2.2)).length = (oT W).length := rfl
  exact ⟨v, t', s', h1, h2, _, a, b, h4, h5, h6, by rw [e]; omega⟩
theorem st_isConsistent (hN : 2000 ≤ N) (hI : IV n t r s) (hn : n + 1 ≤ 512) : S03 n r (fX12_isConsistent N t) (fX13_isConsistent N s) := by
  obtain ⟨W, a, b, hR, hM, hw, hu⟩ := hI
  obtain ⟨u, h1, h2⟩ := e_isConsistent (s := s) hN hR.1 hw.1.1
  exact ⟨_, _, _, h1, h2, W, a, b, hR, hM, hw, by omega⟩
theorem st_meanPrice (hN : 2000 ≤ N) (hI : IV n t r s) (hn : n + 1 ≤ 512) : ST2 [6] n t r (fX12_meanPrice N t) (fX13_meanPrice N s) ∧ ∀ v, fX12_meanPrice N t = some (0, v) → FP.Core.dIsNaN v = false := by
  obtain ⟨W, a, b, hR, hM, hw, hu⟩ := hI
  have h := e_meanPrice hN hR.1 hM.1 hw.1.1
  exact ⟨rd_st h.1 hR hM hw hu, h.2⟩
theorem st_claimShare (hN : 2000 ≤ N) (hI : IV n t r s) (hn : n + 1 ≤ 512) : ST2 [6] n t r (fX12_claimShare N t) (fX13_claimShare N s) ∧ ∀ v, fX12_claimShare N t = some (0, v) → FP.Core.dIsNaN (FP.f2d v) = false := by
  obtain ⟨W, a, b, hR, hM, hw, hu⟩ := hI
  have h := e_claimShare (N := N) hR.1 hM.1 hw.1.1
  exact ⟨rd_st h.1 hR hM hw hu, h.2⟩
end SV
