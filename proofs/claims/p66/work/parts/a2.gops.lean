/-! ===== what each call makes of the books: answer and new books, in numbers ===== -/
abbrev GO : Type := Nat × Int × SG
def gPost (S : SG) (d c m : Int) : GO := if whyE (aN (gA S)) d c m = 0 then (0, (jN (gJ S) : Int), sEnt S d.toNat c.toNat m 0) else if whyE (aN (gA S)) d c m = 1 then (1, 0, S) else (3, 0, S)
def gRev (S : SG) (z : Int) : GO := if (jN (gJ S) : Int) - jK (gJ S) ≤ z ∧ z < jN (gJ S) then (if jM (gJ S) z.toNat = 0 then (0, (jN (gJ S) : Int), sRev S z.toNat) else (4, 0, S)) else (2, 0, S)
def gPrompt (S : SG) (d c m e f : Int) : GO := if whyE (aN (gA S)) d c m = 0 then (if (1 ≤ e ∧ e ≤ 12) ∧ (1 ≤ f ∧ f ≤ 9) then (if (gP S).length < 6 then (0, ((gP S).length : Int), wP S (gP S ++ [(d, c, m, e, f, e)])) else (4, 0, S)) else (3, 0, S)) else if whyE (aN (gA S)) d c m = 1 then (1, 0, S) else (3, 0, S)
def gCancel (S : SG) (z : Int) : GO := if 0 ≤ z ∧ z < (gP S).length then (0, ((gP S)[z.toNat]?.getD (0, 0, 0, 0, 0, 0)).2.2.2.2.1, wP S ((gP S).eraseIdx z.toNat)) else (1, 0, S)
def gPass (S : SG) (z : Int) : GO := if 1 ≤ z ∧ z ≤ 24 then (0, (sHoursC z.toNat S : Int), sHours z.toNat S) else (3, 0, S)
def gBuy (S : SG) (k p : Int) : GO := if (1 ≤ k ∧ k ≤ 20) ∧ (1 ≤ p ∧ p ≤ 40) then (if (gL S).length < 8 then (if k * p ≤ bal (gA S) 0 then (0, k * p, sBuy S k p) else (5, 0, S)) else (4, 0, S)) else (3, 0, S)
def gSell (S : SG) (k p : Int) : GO := if (1 ≤ k ∧ k ≤ 20) ∧ (1 ≤ p ∧ p ≤ 40) then (if k ≤ lSum (gL S) then (0, sCost k (gL S), sSell S k p) else (4, 0, S)) else (3, 0, S)
def gBill (S : SG) (m : Int) : GO := if 1 ≤ m ∧ m ≤ 999 then (if (gB S).1.length < 10 then (0, ((gB S).2 : Int), sBill S m) else (4, 0, S)) else (3, 0, S)
def gPay (S : SG) (m : Int) : GO := if 1 ≤ m ∧ m ≤ 999 then (if m ≤ bSum (gB S).1 then (0, ((gB S).1.length : Int) - (payB S m).length, sPay S m) else (4, 0, S)) else (3, 0, S)
def gOpen (S : SG) (k : Int) : GO := if isKdB k = true then (if aN (gA S) < 12 then (0, (aN (gA S) : Int), sOpen S k (-1)) else (4, 0, S)) else (3, 0, S)
def gOpenB (S : SG) (z : Int) : GO := if 0 ≤ z ∧ z < aN (gA S) then (if aN (gA S) < 12 then (0, (aN (gA S) : Int), sOpen S (aK (gA S) z.toNat) z) else (4, 0, S)) else (1, 0, S)
def gFall (S : SG) : GO := (0, sumN (gainAt (gA S)) (aN (gA S)), sFall S)
/-- the whole behind a call: a refused one leaves it as it was -/
def lO (W : SO) (g : GO) : Nat × Int × SO := if g.1 = 0 then (0, g.2.1, stO W g.2.2) else (g.1, 0, W)
def CG (a b : Nat) (c : Option (Nat × Int32 × ThlS × (Nat → BooS))) (o : Nat × Int × SO) : Prop := ∃ t r, c = some (o.1, iI o.2.1, t, r) ∧ RT t r o.2.2 ∧ NO a b o.2.2
section CGs
variable {N : Nat} {t : ThlS} {r : Nat → BooS} {W : SO} {a b : Nat}
theorem cg_no (hR : RT t r W) (hw : WO a b W) {c : Option (Nat × Int32 × ThlS × (Nat → BooS))} {S : SG} (q : Nat) (hq : q ≠ 0) (hc : c = some (q, 0, t, r)) : CG a b c (lO W (q, 0, S)) := by
  unfold lO
  rw [if_neg hq]
  exact ⟨t, r, hc, hR, a, b, by omega, hw⟩
theorem cg_ok (hR : RT t r W) (hw : WO a b W) {F : ThlS × (Nat → BooS) → Option (Nat × Int32 × ThlS × (Nat → BooS))} {c : Option (Nat × Int32 × ThlS × (Nat → BooS))} (S' : SG) (v : Int) (hn : NX a b S') (hc : c = xcall (fX12_record N t r) F) (hF : ∀ t' r' W1, RT t' r' W1 → oS W1 = oS W → ∃ t2, F (t', r') = some (0, iI v, t2, r') ∧ RT t2 r' (S', W1.2)) : CG a b c (lO W (0, v, S')) := by
  have hwg := hw.1.1
  obtain ⟨t', r', e1, e2⟩ := c_record N hR hwg
  obtain ⟨t2, f1, f2⟩ := hF t' r' _ e2 rfl
  unfold lO
  rw [if_pos rfl]
  exact ⟨t2, r', by rw [hc, e1, xcall_s, f1], f2, NO.st hw hn⟩
theorem g_post (hR : RT t r W) (hw : WO a b W) (hu : a + b + 1 ≤ 512) {d c m : Int} (hd : -2147483648 ≤ d ∧ d < 2147483648) (hc : -2147483648 ≤ c ∧ c < 2147483648) (hm : -2147483648 ≤ m ∧ m < 2147483648) : CG a b (fX12_post N (iI d) (iI c) (iI m) t r) (lO W (gPost (oS W) d c m)) := by
  have w := hw.1.1
  have hf := c_fEntry N hR.1.1 w.fr.1 hd hc hm
  have hle := whyE_le (aN (gA (oS W))) d c m
  unfold gPost
  by_cases h1 : whyE (aN (gA (oS W))) d c m = 0
  · obtain ⟨hd2, hc2, hne, hm2⟩ := whyE_0 h1
    rw [if_neg (by omega), if_neg (by omega)] at hf
    rw [if_pos h1]
    refine cg_ok (N := N) hR hw (sEnt (oS W) d.toNat c.toNat m 0) (jN (gJ (oS W)) : Int) (nx_post hw.1 hu (by omega) (by omega) hm2) (F := fun q3 => xcall (fX3_makeEntry N (iI d) (iI c) ((iI m).toInt64) q3.1.1) fun q4 => some (0, q4.1, (Thls0 q3.1 q4.2), q3.2)) ?_ (fun t' r' W1 h hW => ?_)
    · unfold fX12_post
      rw [hf, xcall_s, c_refuse N 0 (by omega), xcall_s]
      rfl
    · have h9 := h.1
      rw [hW] at h9
      obtain ⟨b', e1, e2⟩ := c_ent N h9 w (d := d.toNat) (c := c.toNat) (by omega) (by omega) m
      rw [Int.toNat_of_nonneg hd2.1, Int.toNat_of_nonneg hc2.1] at e1
      refine ⟨Thls0 t' b', ?_, e2, h.2⟩
      show xcall (fX3_makeEntry N (iI d) (iI c) ((iI m).toInt64) t'.1) _ = _
      rw [i_toL hm.1 hm.2, e1, xcall_s]
  · rw [if_neg h1]
    by_cases h2 : whyE (aN (gA (oS W))) d c m = 1
    · rw [if_pos h2] at hf
      rw [if_pos h2]
      refine cg_no hR hw 1 (by decide) ?_
      unfold fX12_post
      rw [hf, xcall_s, c_refuse N 1 (by omega), xcall_s]
      rfl
    · have h3 : whyE (aN (gA (oS W))) d c m = 2 := by omega
      rw [if_neg h2, if_pos h3] at hf
      rw [if_neg h2]
      refine cg_no hR hw 3 (by decide) ?_
      unfold fX12_post
      rw [hf, xcall_s, c_refuse N 3 (by omega), xcall_s]
      rfl
theorem g_reverse (hR : RT t r W) (hw : WO a b W) (hu : a + b + 1 ≤ 512) {z : Int} (hz : -2147483648 ≤ z ∧ z < 2147483648) : CG a b (fX12_reverse N (iI z) t r) (lO W (gRev (oS W) z)) := by
  have w := hw.1.1
  have hf := c_fRev N hR.1.2.1 w.2.1 hz
  have hg := (hw.1.2.rng (by omega)).2.2.1
  have hk := jK_le (gJ (oS W))
  have hk2 : jK (gJ (oS W)) ≤ jN (gJ (oS W)) := by unfold jK; omega
  unfold gRev
  by_cases h1 : (jN (gJ (oS W)) : Int) - jK (gJ (oS W)) ≤ z ∧ z < jN (gJ (oS W))
  · rw [if_neg (fun hh => hh h1)] at hf
    rw [if_pos h1]
    by_cases h2 : jM (gJ (oS W)) z.toNat = 0
    · rw [if_pos h2] at hf
      rw [if_pos h2]
      refine cg_ok (N := N) hR hw (sRev (oS W) z.toNat) (jN (gJ (oS W)) : Int) (nx_rev hw.1 hu (by omega) (by omega) h2) (F := fun q3 => xcall (fX3_makeReversal N (iI z) q3.1.1) fun q4 => some (0, q4.1, (Thls0 q3.1 q4.2), q3.2)) ?_ (fun t' r' W1 h hW => ?_)
      · unfold fX12_reverse
        rw [hf, xcall_s, c_refuse N 0 (by omega), xcall_s]
        rfl
      · have h9 := h.1
        rw [hW] at h9
        obtain ⟨b', e1, e2⟩ := c_rev N h9 w (by omega) (e := z.toNat) (by omega) (by omega)
        rw [Int.toNat_of_nonneg (by omega)] at e1
        refine ⟨Thls0 t' b', ?_, e2, h.2⟩
        show xcall (fX3_makeReversal N (iI z) t'.1) _ = _
        rw [e1, xcall_s]
    · rw [if_neg h2] at hf
      rw [if_neg h2]
      refine cg_no hR hw 4 (by decide) ?_
      unfold fX12_reverse
      rw [hf, xcall_s, c_refuse N 4 (by omega), xcall_s]
      rfl
  · rw [if_pos h1] at hf
    rw [if_neg h1]
    refine cg_no hR hw 2 (by decide) ?_
    unfold fX12_reverse
    rw [hf, xcall_s, c_refuse N 2 (by omega), xcall_s]
    rfl
theorem g_prompt (hR : RT t r W) (hw : WO a b W) (hu : a + b + 1 ≤ 512) {d c m e f : Int} (hd : -2147483648 ≤ d ∧ d < 2147483648) (hc : -2147483648 ≤ c ∧ c < 2147483648) (hm : -2147483648 ≤ m ∧ m < 2147483648) (he : -2147483648 ≤ e ∧ e < 2147483648) (hf9 : -2147483648 ≤ f ∧ f < 2147483648) : CG a b (fX12_prompt N (iI d) (iI c) (iI m) (iI e) (iI f) t r) (lO W (gPrompt (oS W) d c m e f)) := by
  have w := hw.1.1
  have hf := c_fEntry N hR.1.1 w.fr.1 hd hc hm
  have hp := c_pNew N hR.1.2.2.1 w.fr.2.1 he hf9
  have hle := whyE_le (aN (gA (oS W))) d c m
  unfold gPrompt
  by_cases h1 : whyE (aN (gA (oS W))) d c m = 0
  · obtain ⟨hd2, hc2, hne, hm2⟩ := whyE_0 h1
    rw [if_neg (by omega), if_neg (by omega)] at hf
    rw [if_pos h1]
    by_cases h2 : (1 ≤ e ∧ e ≤ 12) ∧ (1 ≤ f ∧ f ≤ 9)
    · rw [if_neg (fun hh => hh h2)] at hp
      rw [if_pos h2]
      by_cases h3 : (gP (oS W)).length < 6
      · rw [if_neg (by omega)] at hp
        rw [if_pos h3]
        refine cg_ok (N := N) hR hw (wP (oS W) (gP (oS W) ++ [(d, c, m, e, f, e)])) ((gP (oS W)).length : Int) (nx_prompt hw.1 hu h3 ⟨by unfold WPe; simp only; omega, by simp only; omega⟩) (F := fun q5 => xcall (fX8_add N (iI d) (iI c) (iI m) (iI e) (iI f) q5.1.1.2.2.1) fun q6 => some (0, q6.1, (Thls0 q5.1 ((Boos2 q5.1.1 q6.2))), q5.2)) ?_ (fun t' r' W1 h hW => ?_)
        · unfold fX12_prompt
          rw [hf, xcall_s, c_refuse N 0 (by omega), xcall_s]
          show xcall _ _ = _
          rw [hp, xcall_s, c_refuse N 0 (by omega), xcall_s]
          rfl
        · have h9 := h.1
          rw [hW] at h9
          obtain ⟨p', e1, e2⟩ := c_pAdd N h9.2.2.1 h3 d c m e f
          refine ⟨Thls0 t' (Boos2 t'.1 p'), ?_, ⟨h9.1, h9.2.1, e2, h9.2.2.2⟩, h.2⟩
          show xcall (fX8_add N (iI d) (iI c) (iI m) (iI e) (iI f) t'.1.2.2.1) _ = _
          rw [e1, xcall_s]
      · rw [if_pos (by omega)] at hp
        rw [if_neg h3]
        refine cg_no hR hw 4 (by decide) ?_
        unfold fX12_prompt
        rw [hf, xcall_s, c_refuse N 0 (by omega), xcall_s]
        show xcall _ _ = _
        rw [hp, xcall_s, c_refuse N 4 (by omega), xcall_s]
        rfl
    · rw [if_pos h2] at hp
      rw [if_neg h2]
      refine cg_no hR hw 3 (by decide) ?_
      unfold fX12_prompt
      rw [hf, xcall_s, c_refuse N 0 (by omega), xcall_s]
      show xcall _ _ = _
      rw [hp, xcall_s, c_refuse N 3 (by omega), xcall_s]
      rfl
  · rw [if_neg h1]
    by_cases h2 : whyE (aN (gA (oS W))) d c m = 1
    · rw [if_pos h2] at hf
      rw [if_pos h2]
      refine cg_no hR hw 1 (by decide) ?_
      unfold fX12_prompt
      rw [hf, xcall_s, c_refuse N 1 (by omega), xcall_s]
      rfl
    · have h3 : whyE (aN (gA (oS W))) d c m = 2 := by omega
      rw [if_neg h2, if_pos h3] at hf
      rw [if_neg h2]
      refine cg_no hR hw 3 (by decide) ?_
      unfold fX12_prompt
      rw [hf, xcall_s, c_refuse N 3 (by omega), xcall_s]
      rfl
theorem g_cancel (hN : 2000 ≤ N) (hR : RT t r W) (hw : WO a b W) (hu : a + b + 1 ≤ 512) {z : Int} (hz : -2147483648 ≤ z ∧ z < 2147483648) : CG a b (fX12_cancelPrompt N (iI z) t r) (lO W (gCancel (oS W) z)) := by
  have w := hw.1.1
  have hf := c_phas N hR.1.2.2.1 w.fr.2.1 hz
  unfold gCancel
  by_cases h1 : 0 ≤ z ∧ z < (gP (oS W)).length
  · obtain ⟨x, hx⟩ : ∃ x, (gP (oS W))[z.toNat]? = some x := ⟨_, List.getElem?_eq_getElem (by omega)⟩
    rw [decide_eq_true h1] at hf
    rw [if_pos h1, hx]
    refine cg_ok (N := N) hR hw (wP (oS W) ((gP (oS W)).eraseIdx z.toNat)) (x.2.2.2.2.1) (nx_cancel hw.1 hu _) (F := fun q2 => xcall (fX8_end N (iI z) q2.1.1.2.2.1) fun q3 => some (0, q3.1, (Thls0 q2.1 ((Boos2 q2.1.1 q3.2))), q2.2)) ?_ (fun t' r' W1 h hW => ?_)
    · unfold fX12_cancelPrompt fX12_checkPrompt
      rw [hf, xcall_s]
      rfl
    · have h9 := h.1
      rw [hW] at h9
      obtain ⟨p', e1, e2⟩ := c_pEnd hN h9.2.2.1 w.2.2.1 hx
      rw [Int.toNat_of_nonneg h1.1] at e1
      refine ⟨Thls0 t' (Boos2 t'.1 p'), ?_, ⟨h9.1, h9.2.1, e2, h9.2.2.2⟩, h.2⟩
      show xcall (fX8_end N (iI z) t'.1.2.2.1) _ = _
      rw [e1, xcall_s]
  · rw [decide_eq_false h1] at hf
    rw [if_neg h1]
    refine cg_no hR hw 1 (by decide) ?_
    unfold fX12_cancelPrompt fX12_checkPrompt
    rw [hf, xcall_s]
    rfl
theorem g_pass (hN : 2000 ≤ N) (hR : RT t r W) (hw : WO a b W) (hu : a + b + 1 ≤ 512) {z : Int} (hz : -2147483648 ≤ z ∧ z < 2147483648) : CG a b (fX12_passHours N (iI z) t r) (lO W (gPass (oS W) z)) := by
  have w := hw.1.1
  have hf := c_fHours N hz
  obtain ⟨q1, q2, q3, q4, q5, q6⟩ := hw.1.2.rng (by omega)
  unfold gPass
  by_cases h1 : 1 ≤ z ∧ z ≤ 24
  · rw [if_pos h1] at hf
    rw [if_pos h1]
    refine cg_ok (N := N) hR hw (sHours z.toNat (oS W)) (sHoursC z.toNat (oS W) : Int) (nx_pass hw.1 hu (by omega)) (F := fun q3 => xcall (fX3_letPass N (iI z) q3.1.1) fun q4 => some (0, q4.1, (Thls0 q3.1 q4.2), q3.2)) ?_ (fun t' r' W1 h hW => ?_)
    · unfold fX12_passHours
      rw [hf, xcall_s, c_refuse N 0 (by omega), xcall_s]
      rfl
    · have h9 := h.1
      rw [hW] at h9
      obtain ⟨b', e1, e2⟩ := c_letPass hN h9 w (k := z.toNat) (by omega) (by omega) (by omega)
      rw [Int.toNat_of_nonneg (by omega)] at e1
      refine ⟨Thls0 t' b', ?_, e2, h.2⟩
      show xcall (fX3_letPass N (iI z) t'.1) _ = _
      rw [e1, xcall_s]
  · rw [if_neg h1] at hf
    rw [if_neg h1]
    refine cg_no hR hw 3 (by decide) ?_
    unfold fX12_passHours
    rw [hf, xcall_s, c_refuse N 3 (by omega), xcall_s]
    rfl
theorem g_buy (hR : RT t r W) (hw : WO a b W) (hu : a + b + 1 ≤ 512) {k p : Int} (hk : -2147483648 ≤ k ∧ k < 2147483648) (hp : -2147483648 ≤ p ∧ p < 2147483648) : CG a b (fX12_buy N (iI k) (iI p) t r) (lO W (gBuy (oS W) k p)) := by
  have w := hw.1.1
  have hf := c_fBuy N hR.1 w hk hp
  have hl := w.2.2.2.1.1
  have go : ∀ q, q < 6 → fX3_faultOfBuying N (iI k) (iI p) t.1 = some q → q ≠ 0 → fX12_buy N (iI k) (iI p) t r = some (q, 0, t, r) := fun q h6 hq h0 => by
    unfold fX12_buy
    rw [hq, xcall_s, c_refuse N q h6, xcall_s]
    unfold xthr
    rw [if_neg h0]
  unfold gBuy
  by_cases h1 : (1 ≤ k ∧ k ≤ 20) ∧ (1 ≤ p ∧ p ≤ 40)
  · rw [if_neg (fun hh => hh h1)] at hf
    rw [if_pos h1]
    by_cases h2 : (gL (oS W)).length < 8
    · rw [if_neg (by omega)] at hf
      rw [if_pos h2]
      by_cases h3 : k * p ≤ bal (gA (oS W)) 0
      · rw [if_neg (by omega)] at hf
        rw [if_pos h3]
        refine cg_ok (N := N) hR hw (sBuy (oS W) k p) (k * p) (nx_buy hw.1 hu h2 h1.1 h1.2) (F := fun q3 => xcall (fX3_buyLot N (iI k) (iI p) q3.1.1) fun q4 => some (0, q4.1, (Thls0 q3.1 q4.2), q3.2)) ?_ (fun t' r' W1 h hW => ?_)
        · unfold fX12_buy
          rw [hf, xcall_s, c_refuse N 0 (by omega), xcall_s]
          rfl
        · have h9 := h.1
          rw [hW] at h9
          obtain ⟨b', e1, e2⟩ := c_buyLot N h9 w h2 h1.1 h1.2
          refine ⟨Thls0 t' b', ?_, e2, h.2⟩
          show xcall (fX3_buyLot N (iI k) (iI p) t'.1) _ = _
          rw [e1, xcall_s]
      · rw [if_pos (by omega)] at hf
        rw [if_neg h3]
        exact cg_no hR hw 5 (by decide) (go 5 (by omega) hf (by omega))
    · rw [if_pos (by omega)] at hf
      rw [if_neg h2]
      exact cg_no hR hw 4 (by decide) (go 4 (by omega) hf (by omega))
  · rw [if_pos h1] at hf
    rw [if_neg h1]
    exact cg_no hR hw 3 (by decide) (go 3 (by omega) hf (by omega))
theorem g_sell (hN : 2000 ≤ N) (hR : RT t r W) (hw : WO a b W) (hu : a + b + 1 ≤ 512) {k p : Int} (hk : -2147483648 ≤ k ∧ k < 2147483648) (hp : -2147483648 ≤ p ∧ p < 2147483648) : CG a b (fX12_sell N (iI k) (iI p) t r) (lO W (gSell (oS W) k p)) := by
  have w := hw.1.1
  have hf := c_fSell hN hR.1.2.2.2.1 w.2.2.2.1 hk hp
  have go : ∀ q, q < 6 → fX11_faultOfSelling N (iI k) (iI p) t.1.2.2.2.1 = some q → q ≠ 0 → fX12_sell N (iI k) (iI p) t r = some (q, 0, t, r) := fun q h6 hq h0 => by
    unfold fX12_sell
    rw [hq, xcall_s, c_refuse N q h6, xcall_s]
    unfold xthr
    rw [if_neg h0]
  unfold gSell
  by_cases h1 : (1 ≤ k ∧ k ≤ 20) ∧ (1 ≤ p ∧ p ≤ 40)
  · rw [if_neg (fun hh => hh h1)] at hf
    rw [if_pos h1]
    obtain ⟨w1, w2⟩ := sell_W1 hw.1 hu h1.1 h1.2
    by_cases h2 : k ≤ lSum (gL (oS W))
    · rw [if_neg (by omega)] at hf
      rw [if_pos h2]
      have hc8 := cost_800 w.2.2.2.1 k (by omega)
      refine cg_ok (N := N) hR hw (sSell (oS W) k p) (sCost k (gL (oS W))) (nx_sell hw.1 hu h1.1 h1.2 h2 (by omega)) (F := fun q3 => xcall (fX3_sellCostumes N (iI k) (iI p) q3.1.1) fun q4 => some (0, q4.1, (Thls0 q3.1 q4.2), q3.2)) ?_ (fun t' r' W1 h hW => ?_)
      · unfold fX12_sell
        rw [hf, xcall_s, c_refuse N 0 (by omega), xcall_s]
        rfl
      · have h9 := h.1
        rw [hW] at h9
        obtain ⟨b', e1, e2⟩ := c_sellC hN h9 w w1 h1.1 h1.2
        refine ⟨Thls0 t' b', ?_, e2, h.2⟩
        show xcall (fX3_sellCostumes N (iI k) (iI p) t'.1) _ = _
        rw [e1, xcall_s]
    · rw [if_pos (by omega)] at hf
      rw [if_neg h2]
      exact cg_no hR hw 4 (by decide) (go 4 (by omega) hf (by omega))
  · rw [if_pos h1] at hf
    rw [if_neg h1]
    exact cg_no hR hw 3 (by decide) (go 3 (by omega) hf (by omega))
theorem g_bill (hR : RT t r W) (hw : WO a b W) (hu : a + b + 1 ≤ 512) {m : Int} (hm : -2147483648 ≤ m ∧ m < 2147483648) : CG a b (fX12_bill N (iI m) t r) (lO W (gBill (oS W) m)) := by
  have w := hw.1.1
  have hl := w.2.2.2.2.1.1
  have hf := c_bNew N hR.1.2.2.2.2.1 w.2.2.2.2.1 hm
  have go : ∀ q, q < 6 → fX2_faultOfNew N (iI m) t.1.2.2.2.2.1 = some q → q ≠ 0 → fX12_bill N (iI m) t r = some (q, 0, t, r) := fun q h6 hq h0 => by
    unfold fX12_bill
    rw [hq, xcall_s, c_refuse N q h6, xcall_s]
    unfold xthr
    rw [if_neg h0]
  unfold gBill
  by_cases h1 : 1 ≤ m ∧ m ≤ 999
  · rw [if_neg (fun hh => hh h1)] at hf
    rw [if_pos h1]
    by_cases h2 : (gB (oS W)).1.length < 10
    · rw [if_neg (by omega)] at hf
      rw [if_pos h2]
      refine cg_ok (N := N) hR hw (sBill (oS W) m) ((gB (oS W)).2 : Int) (nx_bill hw.1 hu h2 h1) (F := fun q3 => xcall (fX3_writeBill N (iI m) q3.1.1) fun q4 => some (0, q4.1, (Thls0 q3.1 q4.2), q3.2)) ?_ (fun t' r' W1 h hW => ?_)
      · unfold fX12_bill
        rw [hf, xcall_s, c_refuse N 0 (by omega), xcall_s]
        rfl
      · have h9 := h.1
        rw [hW] at h9
        obtain ⟨b', e1, e2⟩ := c_writeBill N h9 w h2 h1
        refine ⟨Thls0 t' b', ?_, e2, h.2⟩
        show xcall (fX3_writeBill N (iI m) t'.1) _ = _
        rw [e1, xcall_s]
    · rw [if_pos (by omega)] at hf
      rw [if_neg h2]
      exact cg_no hR hw 4 (by decide) (go 4 (by omega) hf (by omega))
  · rw [if_pos h1] at hf
    rw [if_neg h1]
    exact cg_no hR hw 3 (by decide) (go 3 (by omega) hf (by omega))
theorem g_pay (hN : 2000 ≤ N) (hR : RT t r W) (hw : WO a b W) (hu : a + b + 1 ≤ 512) {m : Int} (hm : -2147483648 ≤ m ∧ m < 2147483648) : CG a b (fX12_pay N (iI m) t r) (lO W (gPay (oS W) m)) := by
  have w := hw.1.1
  have hf := c_bPay hN hR.1.2.2.2.2.1 w.2.2.2.2.1 hm
  have go : ∀ q, q < 6 → fX2_faultOfPayment N (iI m) t.1.2.2.2.2.1 = some q → q ≠ 0 → fX12_pay N (iI m) t r = some (q, 0, t, r) := fun q h6 hq h0 => by
    unfold fX12_pay
    rw [hq, xcall_s, c_refuse N q h6, xcall_s]
    unfold xthr
    rw [if_neg h0]
  unfold gPay
  by_cases h1 : 1 ≤ m ∧ m ≤ 999
  · rw [if_neg (fun hh => hh h1)] at hf
    rw [if_pos h1]
    by_cases h2 : m ≤ bSum (gB (oS W)).1
    · rw [if_neg (by omega)] at hf
      rw [if_pos h2]
      refine cg_ok (N := N) hR hw (sPay (oS W) m) (((gB (oS W)).1.length : Int) - (payB (oS W) m).length) (nx_pay hw.1 hu h1) (F := fun q3 => xcall (fX7_chosenSet N (iI m) q3.1.2.2.2.1 q3.1.1.2.2.2.2.1) fun q4 => xcall (fX3_takePayment N (iI m) q4.1 ((Boos4 q3.1.1 q4.2.2))) fun q5 => some (0, q5.1, (Thls3 (Thls0 q3.1 q5.2) q4.2.1), q3.2)) ?_ (fun t' r' W1 h hW => ?_)
      · unfold fX12_pay
        rw [hf, xcall_s, c_refuse N 0 (by omega), xcall_s]
        rfl
      · have h9 := h.1
        rw [hW] at h9
        obtain ⟨u, u1⟩ := c_chosenSet (t := t'.2.2.2.1) hN h9.2.2.2.2.1 w.2.2.2.2.1 h1
        obtain ⟨b', e1, e2⟩ := c_takePayment hN h9 w h1
        refine ⟨Thls3 (Thls0 t' b') u, ?_, e2, h.2⟩
        show xcall (fX7_chosenSet N (iI m) t'.2.2.2.1 t'.1.2.2.2.2.1) _ = _
        rw [u1, xcall_s]
        show xcall (fX3_takePayment N (iI m) (iI (chS (oS W) m : Int)) t'.1) _ = _
        rw [e1, xcall_s]
    · rw [if_pos (by omega)] at hf
      rw [if_neg h2]
      exact cg_no hR hw 4 (by decide) (go 4 (by omega) hf (by omega))
  · rw [if_pos h1] at hf
    rw [if_neg h1]
    exact cg_no hR hw 3 (by decide) (go 3 (by omega) hf (by omega))
theorem g_open (hR : RT t r W) (hw : WO a b W) {k : Int} (hk : -2147483648 ≤ k ∧ k < 2147483648) : CG a b (fX12_open N (iI k) t r) (lO W (gOpen (oS W) k)) := by
  have w := hw.1.1
  have hf := c_fNew N hR.1.1 w.fr.1 hk
  have go : ∀ q, q < 6 → fX1_faultOfNew N (iI k) t.1.1 = some q → q ≠ 0 → fX12_open N (iI k) t r = some (q, 0, t, r) := fun q h6 hq h0 => by
    unfold fX12_open
    rw [hq, xcall_s, c_refuse N q h6, xcall_s]
    unfold xthr
    rw [if_neg h0]
  have hn := w.1.2.1
  unfold gOpen
  by_cases h1 : isKdB k = true
  · have h1' := isKdB_t h1
    rw [if_neg (by rw [h1]; decide)] at hf
    rw [if_pos h1]
    by_cases h2 : aN (gA (oS W)) < 12
    · rw [if_neg (by omega)] at hf
      rw [if_pos h2]
      refine cg_ok (N := N) hR hw (sOpen (oS W) k (-1)) (aN (gA (oS W)) : Int) (nx_open hw.1 h2 h1'.1 (by omega)) (F := fun q3 => xcall (fX1_add N (iI k) (-1) q3.1.1.1) fun q4 => some (0, q4.1, (Thls0 q3.1 ((Boos0 q3.1.1 q4.2))), q3.2)) ?_ (fun t' r' W1 h hW => ?_)
      · unfold fX12_open
        rw [hf, xcall_s, c_refuse N 0 (by omega), xcall_s]
        rfl
      · have h9 := h.1
        rw [hW] at h9
        obtain ⟨a', e1, e2⟩ := c_add N h9.1 w.wa h2 (k := k) (p := -1) h1'.2.1 h1'.2.2
        refine ⟨Thls0 t' (Boos0 t'.1 a'), ?_, ⟨e2, h9.2⟩, h.2⟩
        show xcall (fX1_add N (iI k) (iI (-1)) t'.1.1) _ = _
        rw [e1, xcall_s]
    · rw [if_pos (by omega)] at hf
      rw [if_neg h2]
      exact cg_no hR hw 4 (by decide) (go 4 (by omega) hf (by omega))
  · have h1f : isKdB k = false := by simpa using h1
    rw [if_pos h1f] at hf
    rw [if_neg h1]
    exact cg_no hR hw 3 (by decide) (go 3 (by omega) hf (by omega))
theorem g_openB (hR : RT t r W) (hw : WO a b W) {z : Int} (hz : -2147483648 ≤ z ∧ z < 2147483648) : CG a b (fX12_openBelow N (iI z) t r) (lO W (gOpenB (oS W) z)) := by
  have w := hw.1.1
  have hf := c_fNewBelow N hR.1.1 w.fr.1 hz
  have go : ∀ q, q < 6 → fX1_faultOfNewBelow N (iI z) t.1.1 = some q → q ≠ 0 → fX12_openBelow N (iI z) t r = some (q, 0, t, r) := fun q h6 hq h0 => by
    unfold fX12_openBelow
    rw [hq, xcall_s, c_refuse N q h6, xcall_s]
    unfold xthr
    rw [if_neg h0]
  have hn := w.1.2.1
  unfold gOpenB
  by_cases h1 : 0 ≤ z ∧ z < aN (gA (oS W))
  · rw [if_neg (fun hh => hh h1)] at hf
    rw [if_pos h1]
    have hk := w.wa.2.2.1 z.toNat (by omega)
    by_cases h2 : aN (gA (oS W)) < 12
    · rw [if_neg (by omega)] at hf
      rw [if_pos h2]
      refine cg_ok (N := N) hR hw (sOpen (oS W) (aK (gA (oS W)) z.toNat) z) (aN (gA (oS W)) : Int) (nx_open hw.1 h2 hk.1 (by omega)) (F := fun q3 => xcall (fX1_kindAt N (iI z) q3.1.1.1) fun q4 => xcall (fX1_add N q4 (iI z) q3.1.1.1) fun q5 => some (0, q5.1, (Thls0 q3.1 ((Boos0 q3.1.1 q5.2))), q3.2)) ?_ (fun t' r' W1 h hW => ?_)
      · unfold fX12_openBelow
        rw [hf, xcall_s, c_refuse N 0 (by omega), xcall_s]
        rfl
      · have h9 := h.1
        rw [hW] at h9
        have hk2 : isCh (aK (gA (oS W)) z.toNat) := by
          have := hk.1
          unfold isKd at this
          unfold isCh
          omega
        obtain ⟨a', e1, e2⟩ := c_add N h9.1 w.wa h2 (k := aK (gA (oS W)) z.toNat) (p := z) hk2.1 hk2.2
        have e3 := c_kindAt N h9.1 w.wa (i := z.toNat) (by omega)
        rw [Int.toNat_of_nonneg h1.1] at e3
        refine ⟨Thls0 t' (Boos0 t'.1 a'), ?_, ⟨e2, h9.2⟩, h.2⟩
        show xcall (fX1_kindAt N (iI z) t'.1.1) _ = _
        rw [e3, xcall_s]
        show xcall (fX1_add N _ (iI z) t'.1.1) _ = _
        rw [e1, xcall_s]
    · rw [if_pos (by omega)] at hf
      rw [if_neg h2]
      exact cg_no hR hw 4 (by decide) (go 4 (by omega) hf (by omega))
  · rw [if_pos h1] at hf
    rw [if_neg h1]
    exact cg_no hR hw 1 (by decide) (go 1 (by omega) hf (by omega))
theorem g_curtain (hN : 2000 ≤ N) (hR : RT t r W) (hw : WO a b W) (hu : a + b + 1 ≤ 512) : ∃ t' r', fX12_curtain N t r = some (iI (gFall (oS W)).2.1, t', r') ∧ RT t' r' (stO W (sFall (oS W))) ∧ NO a b (stO W (sFall (oS W))) := by
  have w := hw.1.1
  obtain ⟨f1, f2, f3⟩ := fall_ok hw.1 hu
  obtain ⟨t', r', e1, e2⟩ := c_record N hR w
  have h9 := e2.1
  obtain ⟨b', d1, d2⟩ := c_dropCurtain hN (b := t'.1) h9 w f1 f2
  refine ⟨Thls0 t' b', r', ?_, ⟨d2, e2.2⟩, NO.st hw (nx_fall hw.1 hu)⟩
  unfold fX12_curtain
  rw [e1, xcall_s]
  show xcall (fX3_dropCurtain N t'.1) _ = _
  rw [d1, xcall_s, l_toI]
  rfl
theorem g_undo (hR : RT t r W) (hw : WO a b W) : CG a b (fX12_undo N t r) (if oH W = [] then (4, 0, W) else (0, ((oH W).dropLast.length : Int), ((oH W).getLastD (oS W), (oH W).dropLast, W.2.2))) := by
  obtain ⟨h1, h2, h3, h4, h5, h6, h7⟩ := hR
  obtain ⟨hl, f, hf, k1, k2, k3⟩ := h3
  unfold fX12_undo
  rw [k2]
  by_cases h0 : oH W = []
  · rw [if_pos h0, h0]
    exact ⟨t, r, rfl, ⟨h1, h2, ⟨hl, f, hf, k1, k2, k3⟩, h4, h5, h6, h7⟩, a, b, by omega, hw⟩
  · obtain ⟨L, hL, hLm⟩ := hist_last h0
    have hp : 0 < (oH W).length := by have := lt_len hL; omega
    have hwL := (hw.2.1 L hLm)
    have eL : (oH W).getLastD (oS W) = L := by
      rw [← List.getLast?_eq_getElem?] at hL
      rw [List.getLastD_eq_getLast?, hL]
      rfl
    have hne : ¬ iI ((oH W).length : Int) = 0 := by rw [i_lit, i_eq (by omega) (by omega) (by omega) (by omega)]; omega
    have e1 : iI ((oH W).length : Int) - 1 = iI (((oH W).dropLast.length : Nat) : Int) := by rw [i_lit, i_sub, List.length_dropLast]; congr 1; omega
    have hrow : RBo (r ((f + (oH W).dropLast.length) % 9)) L := by rw [List.length_dropLast]; exact k3 _ L hL
    have hfr := c_free (his := (t.2.2.1.1, iI (((oH W).dropLast.length : Nat) : Int))) (H := (oH W).dropLast) N hf k1 rfl (by rw [List.length_dropLast]; omega)
    obtain ⟨b', c1, c2⟩ := c_bookCopy (b := t.1) N hrow hwL.1
    rw [if_neg hne, if_neg h0, eL]
    refine ⟨Thls2 (Thls0 t b') (t.2.2.1.1, iI (((oH W).dropLast.length : Nat) : Int)), r, ?_, ?_, a, b, by omega, hwL, fun S hS => hw.2.1 S (List.dropLast_subset _ hS), hw.2.2.1, ?_, hw.2.2.2.2⟩
    · unfold fX5_stepBack fX5_putBack xlet
      rw [k2, e1]
      show xcall (xcall (xcall (fX5_free N (t.2.2.1.1, iI (((oH W).dropLast.length : Nat) : Int))) _) _) _ = _
      rw [hfr, xcall_s, xnz_d (by omega), c1, xcall_s, xcall_s, xcall_s, uprow_self]
    · refine ⟨c2, h2, ⟨by rw [List.length_dropLast]; omega, f, hf, k1, rfl, fun i S' hi => ?_⟩, h4, h5, h6, h7⟩
      obtain ⟨d1, d2⟩ := dropL_at hi
      exact k3 i S' d1
    · rw [List.length_dropLast]; omega
theorem g_save (hR : RT t r W) (hw : WO a b W) : ∃ t', fX12_save N t = some (iI (aN (gA (oS W)) : Int), t') ∧ RT t' r (oS W, oH W, some (oS W), W.2.2.2) ∧ WO a b (oS W, oH W, some (oS W), W.2.2.2) := by
  obtain ⟨h1, h2, h3, h4, h5, h6, h7⟩ := hR
  have w := hw.1.1
  obtain ⟨b', c1, c2⟩ := c_bookCopy (b := t.2.1) N h1 w
  refine ⟨Thls7 (Thls1 t b') 1, ?_, ⟨h1, ⟨rfl, fun S hS => ?_⟩, h3, h4, h5, h6, h7⟩, ⟨hw.1, hw.2.1, fun S hS => ?_, hw.2.2.2⟩⟩
  · unfold fX12_save
    rw [c1, xcall_s, h1.1.2.1]
  · injection hS with hS
    subst hS
    exact c2
  · injection hS with hS
    subst hS
    exact hw.1
theorem g_restore (hR : RT t r W) (hw : WO a b W) {L : SG} (hV : oV W = some L) : ∃ t', fX12_restore N t = some (0, iI (aN (gA L) : Int), t') ∧ RT t' r (L, [], W.2.2) ∧ WO a b (L, [], W.2.2) := by
  obtain ⟨h1, ⟨h2, h2b⟩, h3, h4, h5, h6, h7⟩ := hR
  obtain ⟨hl, f, hf, k1, k2, k3⟩ := h3
  unfold fX12_restore
  rw [h2, hV]
  have hwL := hw.2.2.1 L hV
  obtain ⟨b', c1, c2⟩ := c_bookCopy (b := t.1) N (h2b L hV) hwL.1
  refine ⟨Thls2 (Thls0 t b') (t.2.2.1.1, 0), ?_, ⟨c2, ⟨h2, h2b⟩, ⟨Nat.zero_le _, f, hf, k1, rfl, fun i S' hi => nil_at hi⟩, h4, h5, h6, h7⟩, hwL, fun S hS => (List.not_mem_nil hS).elim, hw.2.2.1, Nat.zero_le _, hw.2.2.2.2⟩
  show xcall (fX3_copyFrom N t.1 t.2.1) _ = _
  rw [c1, xcall_s]
  show some (0, b'.1.2.2.2.2, _) = _
  rw [c2.1.2.1]
theorem g_feed (hR : RT t r W) (hw : WO a b W) {c : Int} (hc : isCh c) (h : (oT W).length < 60) : ∃ t', fX12_feed N (iI c) t = some (0, iI (((oT W).length + 1 : Nat) : Int), t') ∧ RT t' r (tW W (oT W ++ [c])) ∧ WO a b (tW W (oT W ++ [c])) := by
  obtain ⟨h1, h2, h3, ⟨h4, h4b⟩, h5⟩ := hR
  have hl := hw.2.2.2.2.1
  unfold fX12_feed
  rw [h4, if_pos (by rw [i_lit, i_lt (by omega) (by omega) (by omega) (by omega)]; omega)]
  refine ⟨Thls4 t (Scrs1 (Scrs0 t.2.2.2.2.1 (upd t.2.2.2.2.1.1 (oT W).length (iI c))) (iI (((oT W).length + 1 : Nat) : Int))), ?_, ⟨h1, h2, h3, ⟨?_, h4b.app c⟩, h5⟩, hw.1, hw.2.1, hw.2.2.1, hw.2.2.2.1, ⟨?_, ?_⟩, hw.2.2.2.2.2⟩
  · unfold fX9_append xjoin
    dsimp only
    rw [h4, if_neg (by rw [i_lit, i_le (by omega) (by omega) (by omega) (by omega)]; omega), xrd_n (by omega) (by omega)]
    unfold xlet
    rw [vnar_char hc.1 hc.2, show (1 : Int32) = iI 1 from rfl, i_add, xcall_s]
    rfl
  · show iI (((oT W).length + 1 : Nat) : Int) = iI ((oT W ++ [c]).length : Int)
    rw [List.length_append]; rfl
  · show (oT W ++ [c]).length ≤ 60
    rw [List.length_append]; show (oT W).length + 1 ≤ 60; omega
  · intro x hx
    rcases List.mem_append.mp hx with h9 | h9
    · exact hl.2 x h9
    · simp at h9; subst h9; exact hc
end CGs
