/-! ===== the calls over the books within a budget ===== -/
def V (n : Nat) (t : ThlS) (r : Nat → BooS) (W : SO) : Prop := RT t r W ∧ ∃ a b, a + b ≤ n ∧ WO a b W
theorem V.w {n : Nat} {t : ThlS} {r : Nat → BooS} {W : SO} (h : V n t r W) : WG (oS W) := by
  obtain ⟨_, a, b, _, h⟩ := h
  exact h.1.1
theorem V.R {n : Nat} {t : ThlS} {r : Nat → BooS} {W : SO} (h : V n t r W) : RBo t.1 (oS W) := h.1.1
theorem V.more {n n' : Nat} {t : ThlS} {r : Nat → BooS} {W : SO} (h : V n t r W) (hn : n ≤ n') : V n' t r W := by
  obtain ⟨h0, a, b, h1, h2⟩ := h
  exact ⟨h0, a, b, by omega, h2⟩
theorem V.mat {n : Nat} {t : ThlS} {r : Nat → BooS} {W : SO} (h : V n t r W) (u : MatS) : V n (Thls3 t u) r W := h
theorem V.of {n a b : Nat} {c : Option (Nat × Int32 × ThlS × (Nat → BooS))} {o : Nat × Int × SO} (hn : a + b ≤ n) (h : CG a b c o) : ∃ t r, c = some (o.1, iI o.2.1, t, r) ∧ V (n + 1) t r o.2.2 := by
  obtain ⟨t, r, h1, h2, a', b', h3, h4⟩ := h
  exact ⟨t, r, h1, h2, a', b', by omega, h4⟩
theorem i_self (d : Int32) : iI d.toInt = d := (i_of d).symm
theorem lO_1 (W : SO) (g : GO) : (lO W g).1 = g.1 := by
  unfold lO
  split
  · rename_i h; exact h.symm
  · rfl
/-- the law's number for an exception -/
def exC (q : Nat) : Int := if q = 1 then -900001 else if q = 3 then -900002 else if q = 4 then -900003 else if q = 5 then -900004 else -900005
def resO (o : Nat × Int × SO) : Int := if o.1 = 0 then o.2.1 else exC o.1
def resR (o : Nat × Int) : Int := if o.1 = 0 then o.2 else exC o.1
section VS
variable {n : Nat} {t : ThlS} {r : Nat → BooS} {W : SO}
theorem V_post (h : V n t r W) (hn : n + 1 ≤ 512) (x1 x2 x3 : Int32) : ∃ t' r', fX12_post 2000 x1 x2 x3 t r = some ((lO W (gPost (oS W) x1.toInt x2.toInt x3.toInt)).1, iI (lO W (gPost (oS W) x1.toInt x2.toInt x3.toInt)).2.1, t', r') ∧ V (n + 1) t' r' (lO W (gPost (oS W) x1.toInt x2.toInt x3.toInt)).2.2 := by
  obtain ⟨hR, a, b, hab, hw⟩ := h
  have q := g_post (N := 2000) hR hw (by omega) (i_rng x1) (i_rng x2) (i_rng x3)
  rw [i_self x1, i_self x2, i_self x3] at q
  exact V.of hab q
theorem q_post (W : SO) (x1 x2 x3 : Int) : (lO W (gPost (oS W) x1 x2 x3)).1 = 0 ∨ (lO W (gPost (oS W) x1 x2 x3)).1 ∈ ([1, 3] : List Nat) := by
  rw [lO_1]
  unfold gPost
  repeat' split
  all_goals first
    | exact .inl rfl
    | exact .inr (by dsimp only; decide)
theorem V_reverse (h : V n t r W) (hn : n + 1 ≤ 512) (x1 : Int32) : ∃ t' r', fX12_reverse 2000 x1 t r = some ((lO W (gRev (oS W) x1.toInt)).1, iI (lO W (gRev (oS W) x1.toInt)).2.1, t', r') ∧ V (n + 1) t' r' (lO W (gRev (oS W) x1.toInt)).2.2 := by
  obtain ⟨hR, a, b, hab, hw⟩ := h
  have q := g_reverse (N := 2000) hR hw (by omega) (i_rng x1)
  rw [i_self x1] at q
  exact V.of hab q
theorem q_reverse (W : SO) (x1 : Int) : (lO W (gRev (oS W) x1)).1 = 0 ∨ (lO W (gRev (oS W) x1)).1 ∈ ([2, 4] : List Nat) := by
  rw [lO_1]
  unfold gRev
  repeat' split
  all_goals first
    | exact .inl rfl
    | exact .inr (by dsimp only; decide)
theorem V_prompt (h : V n t r W) (hn : n + 1 ≤ 512) (x1 x2 x3 x4 x5 : Int32) : ∃ t' r', fX12_prompt 2000 x1 x2 x3 x4 x5 t r = some ((lO W (gPrompt (oS W) x1.toInt x2.toInt x3.toInt x4.toInt x5.toInt)).1, iI (lO W (gPrompt (oS W) x1.toInt x2.toInt x3.toInt x4.toInt x5.toInt)).2.1, t', r') ∧ V (n + 1) t' r' (lO W (gPrompt (oS W) x1.toInt x2.toInt x3.toInt x4.toInt x5.toInt)).2.2 := by
  obtain ⟨hR, a, b, hab, hw⟩ := h
  have q := g_prompt (N := 2000) hR hw (by omega) (i_rng x1) (i_rng x2) (i_rng x3) (i_rng x4) (i_rng x5)
  rw [i_self x1, i_self x2, i_self x3, i_self x4, i_self x5] at q
  exact V.of hab q
theorem q_prompt (W : SO) (x1 x2 x3 x4 x5 : Int) : (lO W (gPrompt (oS W) x1 x2 x3 x4 x5)).1 = 0 ∨ (lO W (gPrompt (oS W) x1 x2 x3 x4 x5)).1 ∈ ([1, 3, 4] : List Nat) := by
  rw [lO_1]
  unfold gPrompt
  repeat' split
  all_goals first
    | exact .inl rfl
    | exact .inr (by dsimp only; decide)
theorem V_cancelPrompt (h : V n t r W) (hn : n + 1 ≤ 512) (x1 : Int32) : ∃ t' r', fX12_cancelPrompt 2000 x1 t r = some ((lO W (gCancel (oS W) x1.toInt)).1, iI (lO W (gCancel (oS W) x1.toInt)).2.1, t', r') ∧ V (n + 1) t' r' (lO W (gCancel (oS W) x1.toInt)).2.2 := by
  obtain ⟨hR, a, b, hab, hw⟩ := h
  have q := g_cancel (N := 2000) (Nat.le_refl _) hR hw (by omega) (i_rng x1)
  rw [i_self x1] at q
  exact V.of hab q
theorem q_cancelPrompt (W : SO) (x1 : Int) : (lO W (gCancel (oS W) x1)).1 = 0 ∨ (lO W (gCancel (oS W) x1)).1 ∈ ([1] : List Nat) := by
  rw [lO_1]
  unfold gCancel
  repeat' split
  all_goals first
    | exact .inl rfl
    | exact .inr (by dsimp only; decide)
theorem V_passHours (h : V n t r W) (hn : n + 1 ≤ 512) (x1 : Int32) : ∃ t' r', fX12_passHours 2000 x1 t r = some ((lO W (gPass (oS W) x1.toInt)).1, iI (lO W (gPass (oS W) x1.toInt)).2.1, t', r') ∧ V (n + 1) t' r' (lO W (gPass (oS W) x1.toInt)).2.2 := by
  obtain ⟨hR, a, b, hab, hw⟩ := h
  have q := g_pass (N := 2000) (Nat.le_refl _) hR hw (by omega) (i_rng x1)
  rw [i_self x1] at q
  exact V.of hab q
theorem q_passHours (W : SO) (x1 : Int) : (lO W (gPass (oS W) x1)).1 = 0 ∨ (lO W (gPass (oS W) x1)).1 ∈ ([3] : List Nat) := by
  rw [lO_1]
  unfold gPass
  repeat' split
  all_goals first
    | exact .inl rfl
    | exact .inr (by dsimp only; decide)
theorem V_buy (h : V n t r W) (hn : n + 1 ≤ 512) (x1 x2 : Int32) : ∃ t' r', fX12_buy 2000 x1 x2 t r = some ((lO W (gBuy (oS W) x1.toInt x2.toInt)).1, iI (lO W (gBuy (oS W) x1.toInt x2.toInt)).2.1, t', r') ∧ V (n + 1) t' r' (lO W (gBuy (oS W) x1.toInt x2.toInt)).2.2 := by
  obtain ⟨hR, a, b, hab, hw⟩ := h
  have q := g_buy (N := 2000) hR hw (by omega) (i_rng x1) (i_rng x2)
  rw [i_self x1, i_self x2] at q
  exact V.of hab q
theorem q_buy (W : SO) (x1 x2 : Int) : (lO W (gBuy (oS W) x1 x2)).1 = 0 ∨ (lO W (gBuy (oS W) x1 x2)).1 ∈ ([3, 4, 5] : List Nat) := by
  rw [lO_1]
  unfold gBuy
  repeat' split
  all_goals first
    | exact .inl rfl
    | exact .inr (by dsimp only; decide)
theorem V_sell (h : V n t r W) (hn : n + 1 ≤ 512) (x1 x2 : Int32) : ∃ t' r', fX12_sell 2000 x1 x2 t r = some ((lO W (gSell (oS W) x1.toInt x2.toInt)).1, iI (lO W (gSell (oS W) x1.toInt x2.toInt)).2.1, t', r') ∧ V (n + 1) t' r' (lO W (gSell (oS W) x1.toInt x2.toInt)).2.2 := by
  obtain ⟨hR, a, b, hab, hw⟩ := h
  have q := g_sell (N := 2000) (Nat.le_refl _) hR hw (by omega) (i_rng x1) (i_rng x2)
  rw [i_self x1, i_self x2] at q
  exact V.of hab q
theorem q_sell (W : SO) (x1 x2 : Int) : (lO W (gSell (oS W) x1 x2)).1 = 0 ∨ (lO W (gSell (oS W) x1 x2)).1 ∈ ([3, 4] : List Nat) := by
  rw [lO_1]
  unfold gSell
  repeat' split
  all_goals first
    | exact .inl rfl
    | exact .inr (by dsimp only; decide)
theorem V_bill (h : V n t r W) (hn : n + 1 ≤ 512) (x1 : Int32) : ∃ t' r', fX12_bill 2000 x1 t r = some ((lO W (gBill (oS W) x1.toInt)).1, iI (lO W (gBill (oS W) x1.toInt)).2.1, t', r') ∧ V (n + 1) t' r' (lO W (gBill (oS W) x1.toInt)).2.2 := by
  obtain ⟨hR, a, b, hab, hw⟩ := h
  have q := g_bill (N := 2000) hR hw (by omega) (i_rng x1)
  rw [i_self x1] at q
  exact V.of hab q
theorem q_bill (W : SO) (x1 : Int) : (lO W (gBill (oS W) x1)).1 = 0 ∨ (lO W (gBill (oS W) x1)).1 ∈ ([3, 4] : List Nat) := by
  rw [lO_1]
  unfold gBill
  repeat' split
  all_goals first
    | exact .inl rfl
    | exact .inr (by dsimp only; decide)
theorem V_pay (h : V n t r W) (hn : n + 1 ≤ 512) (x1 : Int32) : ∃ t' r', fX12_pay 2000 x1 t r = some ((lO W (gPay (oS W) x1.toInt)).1, iI (lO W (gPay (oS W) x1.toInt)).2.1, t', r') ∧ V (n + 1) t' r' (lO W (gPay (oS W) x1.toInt)).2.2 := by
  obtain ⟨hR, a, b, hab, hw⟩ := h
  have q := g_pay (N := 2000) (Nat.le_refl _) hR hw (by omega) (i_rng x1)
  rw [i_self x1] at q
  exact V.of hab q
theorem q_pay (W : SO) (x1 : Int) : (lO W (gPay (oS W) x1)).1 = 0 ∨ (lO W (gPay (oS W) x1)).1 ∈ ([3, 4] : List Nat) := by
  rw [lO_1]
  unfold gPay
  repeat' split
  all_goals first
    | exact .inl rfl
    | exact .inr (by dsimp only; decide)
theorem V_open (h : V n t r W) (hn : n + 1 ≤ 512) (x1 : Int32) : ∃ t' r', fX12_open 2000 x1 t r = some ((lO W (gOpen (oS W) x1.toInt)).1, iI (lO W (gOpen (oS W) x1.toInt)).2.1, t', r') ∧ V (n + 1) t' r' (lO W (gOpen (oS W) x1.toInt)).2.2 := by
  obtain ⟨hR, a, b, hab, hw⟩ := h
  have q := g_open (N := 2000) hR hw (i_rng x1)
  rw [i_self x1] at q
  exact V.of hab q
theorem q_open (W : SO) (x1 : Int) : (lO W (gOpen (oS W) x1)).1 = 0 ∨ (lO W (gOpen (oS W) x1)).1 ∈ ([3, 4] : List Nat) := by
  rw [lO_1]
  unfold gOpen
  repeat' split
  all_goals first
    | exact .inl rfl
    | exact .inr (by dsimp only; decide)
theorem V_openBelow (h : V n t r W) (hn : n + 1 ≤ 512) (x1 : Int32) : ∃ t' r', fX12_openBelow 2000 x1 t r = some ((lO W (gOpenB (oS W) x1.toInt)).1, iI (lO W (gOpenB (oS W) x1.toInt)).2.1, t', r') ∧ V (n + 1) t' r' (lO W (gOpenB (oS W) x1.toInt)).2.2 := by
  obtain ⟨hR, a, b, hab, hw⟩ := h
  have q := g_openB (N := 2000) hR hw (i_rng x1)
  rw [i_self x1] at q
  exact V.of hab q
theorem q_openBelow (W : SO) (x1 : Int) : (lO W (gOpenB (oS W) x1)).1 = 0 ∨ (lO W (gOpenB (oS W) x1)).1 ∈ ([1, 4] : List Nat) := by
  rw [lO_1]
  unfold gOpenB
  repeat' split
  all_goals first
    | exact .inl rfl
    | exact .inr (by dsimp only; decide)
def oCur (W : SO) : Nat × Int × SO := (0, (gFall (oS W)).2.1, stO W (sFall (oS W)))
theorem V_curtain (h : V n t r W) (hn : n + 1 ≤ 512) : ∃ t' r', fX12_curtain 2000 t r = some (iI (oCur W).2.1, t', r') ∧ V (n + 1) t' r' (oCur W).2.2 := by
  obtain ⟨hR, a, b, hab, hw⟩ := h
  obtain ⟨t', r', q1, q2, a', b', q3, q4⟩ := g_curtain (N := 2000) (Nat.le_refl _) hR hw (by omega)
  exact ⟨t', r', q1, q2, a', b', by omega, q4⟩
def oUndo (W : SO) : Nat × Int × SO := if oH W = [] then (4, 0, W) else (0, ((oH W).dropLast.length : Int), ((oH W).getLastD (oS W), (oH W).dropLast, W.2.2))
theorem V_undo (h : V n t r W) : ∃ t' r', fX12_undo 2000 t r = some ((oUndo W).1, iI (oUndo W).2.1, t', r') ∧ V (n + 1) t' r' (oUndo W).2.2 := by
  obtain ⟨hR, a, b, hab, hw⟩ := h
  exact V.of hab (g_undo hR hw)
theorem V_save (h : V n t r W) : ∃ t', fX12_save 2000 t = some (iI (aN (gA (oS W)) : Int), t') ∧ V n t' r (oS W, oH W, some (oS W), W.2.2.2) := by
  obtain ⟨hR, a, b, hab, hw⟩ := h
  obtain ⟨t', q1, q2, q3⟩ := g_save (N := 2000) hR hw
  exact ⟨t', q1, q2, a, b, hab, q3⟩
theorem V_restore (h : V n t r W) {L : SG} (hV : oV W = some L) : ∃ t', fX12_restore 2000 t = some (0, iI (aN (gA L) : Int), t') ∧ V n t' r (L, [], W.2.2) := by
  obtain ⟨hR, a, b, hab, hw⟩ := h
  obtain ⟨t', q1, q2, q3⟩ := g_restore (N := 2000) hR hw hV
  exact ⟨t', q1, q2, a, b, hab, q3⟩
theorem V_feed (h : V n t r W) {c : Int} (hc : isCh c) (hl : (oT W).length < 60) : ∃ t' v, fX12_feed 2000 (iI c) t = some (0, v, t') ∧ V n t' r (tW W (oT W ++ [c])) := by
  obtain ⟨hR, a, b, hab, hw⟩ := h
  obtain ⟨t', q1, q2, q3⟩ := g_feed (N := 2000) hR hw hc hl
  exact ⟨t', _, q1, q2, a, b, hab, q3⟩
theorem V_run (h : V n t r W) (hn : n + 12 ≤ 512) : ∃ t' r', fX12_runCommands 2000 t r = some ((oRun W).1, iI (oRun W).2.1, t', r') ∧ V (n + 12) t' r' (oRun W).2.2 := by
  obtain ⟨hR, a, b, hab, hw⟩ := h
  obtain ⟨t', r', q1, q2, a', b', q3, q4⟩ := g_run (N := 2000) (Nat.le_refl _) hR hw (by omega)
  exact ⟨t', r', q1, q2, a', b', by omega, q4⟩
theorem q_run (W : SO) : (oRun W).1 = 0 ∨ (oRun W).1 ∈ ([3, 5] : List Nat) := by
  unfold oRun
  split
  · split
    · exact .inl rfl
    · exact .inr (by dsimp only; decide)
  · exact .inr (by dsimp only; decide)
theorem V_error (h : V n t r W) (hE : oE W ≠ -1) : fX12_errorPosition 2000 t = some (0, iI (oE W)) := by
  obtain ⟨hR, a, b, hab, hw⟩ := h
  rw [r_errorPosition hR hw, if_neg hE]
theorem V_failed (h : V n t r W) (hF : oF W ≠ -1) : fX12_failedCommand 2000 t = some (0, iI (oF W)) := by
  obtain ⟨hR, a, b, hab, hw⟩ := h
  rw [r_failedCommand hR hw, if_neg hF]
theorem V_out (h : V n t r W) {i : Nat} {c : Int} (hc : (oO W)[i]? = some c) : fX12_outputChar 2000 (iI (i : Int)) t = some (0, iI c) := by
  obtain ⟨hR, a, b, hab, hw⟩ := h
  exact r_outputChar hR hw hc
theorem V_write (h : V n t r W) {z : Int} (hz : (jN (gJ (oS W)) : Int) - jK (gJ (oS W)) ≤ z ∧ z < jN (gJ (oS W))) : ∃ t', fX12_writeEntry 2000 (iI z) t = some (0, iI ((eTx z.toNat (jD (gJ (oS W)) z.toNat) (jC (gJ (oS W)) z.toNat) (jA (gJ (oS W)) z.toNat) (jM (gJ (oS W)) z.toNat)).length : Int), t') ∧ V n t' r (oS W, oH W, oV W, oT W, oE W, oF W, eTx z.toNat (jD (gJ (oS W)) z.toNat) (jC (gJ (oS W)) z.toNat) (jA (gJ (oS W)) z.toNat) (jM (gJ (oS W)) z.toNat)) := by
  obtain ⟨hR, a, b, hab, hw⟩ := h
  have w := hw.1.1
  have hk := w.2.1.1
  have hk2 : jK (gJ (oS W)) ≤ jN (gJ (oS W)) := by unfold jK; omega
  obtain ⟨t', q1, q2, q3⟩ := g_write (N := 2000) (Nat.le_refl _) hR hw (z := z) (by omega) hz
  exact ⟨t', q1, q2, a, b, hab, q3⟩
/-! what a reading call answers -/
def rParent (S : SG) (z : Int) : Nat × Int := if 0 ≤ z ∧ z < aN (gA S) then (if aP (gA S) z.toNat = -1 then (2, 0) else (0, aP (gA S) z.toNat)) else (1, 0)
def rCost (S : SG) (z : Int) : Nat × Int := if ¬ (1 ≤ z ∧ z ≤ 20) then (3, 0) else if lSum (gL S) < z then (4, 0) else (0, sCost z (gL S))
def rOpenA (S : SG) (z : Int) : Nat × Int := match plc z (gB S).1 with | none => (2, 0) | some i => (0, ((gB S).1[i]?.getD (0, 0)).2)
def rSize (S : SG) (m : Int) : Nat × Int := if chS S m = 0 then (2, 0) else (0, pop 12 (chS S m))
def rIn (S : SG) (z m : Int) : Nat × Int := match plc z (gB S).1 with | none => (2, 0) | some i => if chS S m = 0 then (4, 0) else (0, if (chS S m).testBit i = true then 1 else 0)
theorem V_parent (h : V n t r W) (x1 : Int32) : fX12_parent 2000 x1 t = some ((rParent (oS W) x1.toInt).1, iI (rParent (oS W) x1.toInt).2) := by
  have q := r_parent (N := 2000) h.R h.w (i_rng x1)
  rw [i_self] at q
  rw [q]
  unfold rParent
  repeat' split
  all_goals rfl
theorem V_costOf (h : V n t r W) (x1 : Int32) : fX12_costOf 2000 x1 t = some ((rCost (oS W) x1.toInt).1, iI (rCost (oS W) x1.toInt).2) := by
  have q := r_costOf (N := 2000) (Nat.le_refl _) h.R h.w (i_rng x1)
  rw [i_self] at q
  rw [q]
  unfold rCost
  repeat' split
  all_goals rfl
theorem V_costByCostumes (h : V n t r W) (x1 : Int32) : fX12_costByCostumes 2000 x1 t = some ((rCost (oS W) x1.toInt).1, iI (rCost (oS W) x1.toInt).2) := by
  have q := r_costByCostumes (N := 2000) (Nat.le_refl _) h.R h.w (i_rng x1)
  rw [i_self] at q
  rw [q]
  unfold rCost
  repeat' split
  all_goals rfl
theorem V_openAmount (h : V n t r W) (x1 : Int32) : fX12_openAmount 2000 x1 t = some ((rOpenA (oS W) x1.toInt).1, iI (rOpenA (oS W) x1.toInt).2) := by
  have q := r_openAmount (N := 2000) (Nat.le_refl _) h.R h.w (i_rng x1)
  rw [i_self] at q
  rw [q]
  unfold rOpenA
  cases plc x1.toInt (gB (oS W)).1 <;> rfl
theorem V_matchSize (h : V n t r W) (x1 : Int32) (hm : 1 ≤ x1.toInt ∧ x1.toInt ≤ 999) : ∃ u, fX12_matchSize 2000 x1 t = some ((rSize (oS W) x1.toInt).1, iI (rSize (oS W) x1.toInt).2, Thls3 t u) := by
  obtain ⟨u, q⟩ := r_matchSize (N := 2000) (Nat.le_refl _) h.R h.w (i_rng x1) hm
  rw [i_self] at q
  refine ⟨u, ?_⟩
  rw [q]
  unfold rSize
  split
  all_goals rfl
theorem V_isInMatch (h : V n t r W) (x1 x2 : Int32) (hm : 1 ≤ x2.toInt ∧ x2.toInt ≤ 999) : ∃ u, fX12_isInMatch 2000 x1 x2 t = some ((rIn (oS W) x1.toInt x2.toInt).1, iI (rIn (oS W) x1.toInt x2.toInt).2, Thls3 t u) := by
  obtain ⟨u, q⟩ := r_isInMatch (N := 2000) (Nat.le_refl _) h.R h.w (i_rng x1) (i_rng x2) hm
  rw [i_self, i_self] at q
  refine ⟨u, ?_⟩
  rw [q]
  unfold rIn
  cases plc x1.toInt (gB (oS W)).1 with
  | none => rfl
  | some i =>
    dsimp only
    split
    · rfl
    · rfl
theorem q_parent (S : SG) (z : Int) : (rParent S z).1 = 0 ∨ (rParent S z).1 ∈ ([1, 2] : List Nat) := by
  unfold rParent
  repeat' split
  all_goals first
    | exact .inl rfl
    | exact .inr (by dsimp only; decide)
theorem q_cost (S : SG) (z : Int) : (rCost S z).1 = 0 ∨ (rCost S z).1 ∈ ([3, 4] : List Nat) := by
  unfold rCost
  repeat' split
  all_goals first
    | exact .inl rfl
    | exact .inr (by dsimp only; decide)
theorem q_openA (S : SG) (z : Int) : (rOpenA S z).1 = 0 ∨ (rOpenA S z).1 ∈ ([2] : List Nat) := by
  unfold rOpenA
  split
  · exact .inr (by dsimp only; decide)
  · exact .inl rfl
theorem q_size (S : SG) (z : Int) : (rSize S z).1 = 0 ∨ (rSize S z).1 ∈ ([3, 2] : List Nat) := by
  unfold rSize
  split
  · exact .inr (by dsimp only; decide)
  · exact .inl rfl
theorem q_in (S : SG) (z m : Int) : (rIn S z m).1 = 0 ∨ (rIn S z m).1 ∈ ([2, 3, 4] : List Nat) := by
  unfold rIn
  split
  · exact .inr (by dsimp only; decide)
  · split
    · exact .inr (by dsimp only; decide)
    · exact .inl rfl
end VS
/-! catching in the law: by the class of the exception -/
def cxL (q : Nat) : Nat := if q = 57 then 1 else if q = 60 then 3 else if q = 66 then 4 else if q = 126 then 5 else if q = 129 then 2 else 0
theorem cxL_w {q : Nat} (h : cxL q ≠ 0) : Cond.classLink RL q (xEx (cxL q)) ∈ xW := by
  unfold cxL at h ⊢
  repeat' split at h
  all_goals first
    | (exfalso; exact h rfl)
    | skip
  all_goals subst_vars
  · exact qcx_L_57
  · exact qcx_L_60
  · exact qcx_L_66
  · exact qcx_L_126
  · exact qcx_L_129
theorem cxL_le (q : Nat) : cxL q ≤ 5 := by
  unfold cxL
  repeat' split
  all_goals omega
theorem lPass {args : Array Value} {s : State} {pre : List ExceptionTableEntry} {E pc : Nat} (hts : ∀ w ∈ xW, w.before args s = true) (hX : xK s) (hE : 1 ≤ E ∧ E ≤ 6) (h : pre.all (fun z => !(covers z pc) || (decide (z.catchType ≠ 0) && (decide (cxL z.catchType ≠ 0) && decide (cxL z.catchType ≠ E)))) = true) : ∀ z ∈ pre, covers z pc = false ∨ (z.catchType ≠ 0 ∧ ∃ nm : String, (Cond.classLink RL z.catchType nm).before args s = true ∧ va_Nc (xEx E) nm s) := by
  intro z hz
  have h1 := List.all_eq_true.mp h z hz
  simp only [Bool.or_eq_true, Bool.not_eq_true', Bool.and_eq_true, decide_eq_true_eq] at h1
  rcases h1 with h1 | ⟨h1, h2, h3⟩
  · exact .inl h1
  · have h4 := cxL_le z.catchType
    refine .inr ⟨h1, _, hts _ (cxL_w h2), ?_⟩
    have h5 := hX (E - 1) (cxL z.catchType - 1) (by omega) (by omega) (by omega)
    rw [show E - 1 + 1 = E by omega, show cxL z.catchType - 1 + 1 = cxL z.catchType by omega] at h5
    exact h5
