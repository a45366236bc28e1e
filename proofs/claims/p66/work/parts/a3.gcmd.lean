/-! ===== commands of a text, and a whole text, by what they make of the books ===== -/
def gOpenC (S : SG) (k p : Int) : GO := if p = -1 then (if aN (gA S) < 12 then (0, (aN (gA S) : Int), sOpen S k (-1)) else (4, 0, S)) else if 0 ≤ p ∧ p < aN (gA S) then (if aN (gA S) < 12 then (if aK (gA S) p.toNat = k then (0, (aN (gA S) : Int), sOpen S k p) else (3, 0, S)) else (4, 0, S)) else (1, 0, S)
def gCmd (S : SG) (c : Nat × List Int) : GO := if c.1 = 0 then gPost S (c.2.getD 0 (-1)) (c.2.getD 1 (-1)) (c.2.getD 2 (-1)) else if c.1 = 1 then gRev S (c.2.getD 0 (-1)) else if c.1 = 2 then gOpenC S (c.2.getD 0 (-1)) (c.2.getD 1 (-1)) else if c.1 = 3 then gBuy S (c.2.getD 0 (-1)) (c.2.getD 1 (-1)) else if c.1 = 4 then gSell S (c.2.getD 0 (-1)) (c.2.getD 1 (-1)) else if c.1 = 5 then gBill S (c.2.getD 0 (-1)) else if c.1 = 6 then gPay S (c.2.getD 0 (-1)) else if c.1 = 7 then gPass S (if c.2.getD 0 (-1) = -1 then 1 else c.2.getD 0 (-1)) else gFall S
def gRun : List (Nat × List Int) → Nat → SG → Option Nat × SG
  | [], _, S => (none, S)
  | c :: C, i, S => if (gCmd S c).1 = 0 then gRun C (i + 1) (gCmd S c).2.2 else (some i, S)
def oRun (W : SO) : Nat × Int × SO := if (rdT (oT W)).1 = true ∧ (rdT (oT W)).2.2 = (oT W).length then (match gRun (rdT (oT W)).2.1 0 (oS W) with
    | (none, S') => (0, ((rdT (oT W)).2.1.length : Int), (S', pushH (oH W) (oS W), oV W, [], oE W, oF W, oO W))
    | (some k, _) => (5, 0, (oS W, oH W, oV W, [], oE W, (k : Int), oO W))) else (3, 0, (oS W, oH W, oV W, [], ((rdT (oT W)).2.2 : Int), oF W, oO W))
def CO9 (ci : Option (Nat × ThlS)) (t : ThlS) (a b : Nat) (g : GO) : Prop := (g.1 = 0 ∧ NX a b g.2.2 ∧ ∃ b' u, ci = some (0, Thls3 (Thls0 t b') u) ∧ RBo b' g.2.2) ∨ (0 < g.1 ∧ g.1 < 6 ∧ ci = some (g.1, t))
theorem co9_no {ci : Option (Nat × ThlS)} {t : ThlS} {a b : Nat} {S : SG} (q : Nat) (hc : ci = some (q, t)) (hq : 0 < q ∧ q < 6) : CO9 ci t a b (q, 0, S) := .inr ⟨hq.1, hq.2, hc⟩
theorem co9_ok {ci : Option (Nat × ThlS)} {t : ThlS} {a b : Nat} {S' : SG} {v : Int} (n : NX a b S') {b' : BooS} (u : MatS) (hc : ci = some (0, Thls3 (Thls0 t b') u)) (hb : RBo b' S') : CO9 ci t a b (0, v, S') := .inl ⟨rfl, n, b', u, hc, hb⟩
section CO9s
variable {N : Nat} {t : ThlS} {S : SG} {a b : Nat}
theorem co9_post (hR : RBo t.1 S) (h : WS a b S) (hu : a + b + 1 ≤ 512) {d c m : Int} (hd : -2147483648 ≤ d ∧ d < 2147483648) (hc : -2147483648 ≤ c ∧ c < 2147483648) (hm : -2147483648 ≤ m ∧ m < 2147483648) : CO9 (fX12_commandPost N (iI d) (iI c) (iI m) t) t a b (gPost S d c m) := by
  have w := h.1
  have hf := c_fEntry N hR.1 w.fr.1 hd hc hm
  have hle := whyE_le (aN (gA S)) d c m
  unfold gPost
  by_cases h1 : whyE (aN (gA S)) d c m = 0
  · obtain ⟨hd2, hc2, hne, hm2⟩ := whyE_0 h1
    rw [if_neg (by omega), if_neg (by omega)] at hf
    rw [if_pos h1]
    obtain ⟨b', e1, e2⟩ := c_ent N hR w (d := d.toNat) (c := c.toNat) (by omega) (by omega) m
    rw [Int.toNat_of_nonneg hd2.1, Int.toNat_of_nonneg hc2.1] at e1
    refine co9_ok (nx_post h hu (by omega) (by omega) hm2) t.2.2.2.1 ?_ e2
    unfold fX12_commandPost
    rw [hf, xcall_s]
    show xcall (fX3_makeEntry N (iI d) (iI c) ((iI m).toInt64) t.1) _ = _
    rw [i_toL hm.1 hm.2, e1, xcall_s]
  · rw [if_neg h1]
    by_cases h2 : whyE (aN (gA S)) d c m = 1
    · rw [if_pos h2] at hf
      rw [if_pos h2]
      refine co9_no 1 ?_ (by omega)
      unfold fX12_commandPost
      rw [hf, xcall_s]
      rfl
    · have h3 : whyE (aN (gA S)) d c m = 2 := by omega
      rw [if_neg h2, if_pos h3] at hf
      rw [if_neg h2]
      refine co9_no 3 ?_ (by omega)
      unfold fX12_commandPost
      rw [hf, xcall_s]
      rfl
theorem co9_back (hR : RBo t.1 S) (h : WS a b S) (hu : a + b + 1 ≤ 512) {z : Int} (hz : -2147483648 ≤ z ∧ z < 2147483648) : CO9 (fX12_commandBack N (iI z) t) t a b (gRev S z) := by
  have w := h.1
  have hf := c_fRev N hR.2.1 w.2.1 hz
  have hg := (h.2.rng (by omega)).2.2.1
  have hk := jK_le (gJ S)
  have hk2 : jK (gJ S) ≤ jN (gJ S) := by unfold jK; omega
  unfold gRev
  by_cases h1 : (jN (gJ S) : Int) - jK (gJ S) ≤ z ∧ z < jN (gJ S)
  · rw [if_neg (fun hh => hh h1)] at hf
    rw [if_pos h1]
    by_cases h2 : jM (gJ S) z.toNat = 0
    · rw [if_pos h2] at hf
      rw [if_pos h2]
      obtain ⟨b', e1, e2⟩ := c_rev N hR w (by omega) (e := z.toNat) (by omega) (by omega)
      rw [Int.toNat_of_nonneg (by omega)] at e1
      refine co9_ok (nx_rev h hu (by omega) (by omega) h2) t.2.2.2.1 ?_ e2
      unfold fX12_commandBack
      rw [hf, xcall_s]
      show xcall (fX3_makeReversal N (iI z) t.1) _ = _
      rw [e1, xcall_s]
    · rw [if_neg h2] at hf
      rw [if_neg h2]
      refine co9_no 4 ?_ (by omega)
      unfold fX12_commandBack
      rw [hf, xcall_s]
      rfl
  · rw [if_pos h1] at hf
    rw [if_neg h1]
    refine co9_no 2 ?_ (by omega)
    unfold fX12_commandBack
    rw [hf, xcall_s]
    rfl
theorem co9_buy (hR : RBo t.1 S) (h : WS a b S) (hu : a + b + 1 ≤ 512) {k p : Int} (hk : -2147483648 ≤ k ∧ k < 2147483648) (hp : -2147483648 ≤ p ∧ p < 2147483648) : CO9 (fX12_commandBuy N (iI k) (iI p) t) t a b (gBuy S k p) := by
  have w := h.1
  have hf := c_fBuy N hR w hk hp
  have hl := w.2.2.2.1.1
  have go : ∀ q, 0 < q → q < 6 → fX3_faultOfBuying N (iI k) (iI p) t.1 = some q → fX12_commandBuy N (iI k) (iI p) t = some (q, t) := fun q h0 h6 hq => by
    unfold fX12_commandBuy
    rw [hq, xcall_s]
    unfold xjoin
    dsimp only
    rw [xnz_d h6, if_neg (by omega)]
  unfold gBuy
  by_cases h1 : (1 ≤ k ∧ k ≤ 20) ∧ (1 ≤ p ∧ p ≤ 40)
  · rw [if_neg (fun hh => hh h1)] at hf
    rw [if_pos h1]
    by_cases h2 : (gL S).length < 8
    · rw [if_neg (by omega)] at hf
      rw [if_pos h2]
      by_cases h3 : k * p ≤ bal (gA S) 0
      · rw [if_neg (by omega)] at hf
        rw [if_pos h3]
        obtain ⟨b', e1, e2⟩ := c_buyLot N hR w h2 h1.1 h1.2
        refine co9_ok (nx_buy h hu h2 h1.1 h1.2) t.2.2.2.1 ?_ e2
        unfold fX12_commandBuy
        rw [hf, xcall_s]
        show xcall (fX3_buyLot N (iI k) (iI p) t.1) _ = _
        rw [e1, xcall_s]
      · rw [if_pos (by omega)] at hf
        rw [if_neg h3]
        exact co9_no 5 (go 5 (by omega) (by omega) hf) (by omega)
    · rw [if_pos (by omega)] at hf
      rw [if_neg h2]
      exact co9_no 4 (go 4 (by omega) (by omega) hf) (by omega)
  · rw [if_pos h1] at hf
    rw [if_neg h1]
    exact co9_no 3 (go 3 (by omega) (by omega) hf) (by omega)
theorem co9_sell (hN : 2000 ≤ N) (hR : RBo t.1 S) (h : WS a b S) (hu : a + b + 1 ≤ 512) {k p : Int} (hk : -2147483648 ≤ k ∧ k < 2147483648) (hp : -2147483648 ≤ p ∧ p < 2147483648) : CO9 (fX12_commandSell N (iI k) (iI p) t) t a b (gSell S k p) := by
  have w := h.1
  have hf := c_fSell hN hR.2.2.2.1 w.2.2.2.1 hk hp
  have go : ∀ q, 0 < q → q < 6 → fX11_faultOfSelling N (iI k) (iI p) t.1.2.2.2.1 = some q → fX12_commandSell N (iI k) (iI p) t = some (q, t) := fun q h0 h6 hq => by
    unfold fX12_commandSell
    rw [hq, xcall_s]
    unfold xjoin
    dsimp only
    rw [xnz_d h6, if_neg (by omega)]
  unfold gSell
  by_cases h1 : (1 ≤ k ∧ k ≤ 20) ∧ (1 ≤ p ∧ p ≤ 40)
  · rw [if_neg (fun hh => hh h1)] at hf
    rw [if_pos h1]
    obtain ⟨w1, w2⟩ := sell_W1 h hu h1.1 h1.2
    by_cases h2 : k ≤ lSum (gL S)
    · rw [if_neg (by omega)] at hf
      rw [if_pos h2]
      have hc8 := cost_800 w.2.2.2.1 k (by omega)
      obtain ⟨b', e1, e2⟩ := c_sellC hN hR w w1 h1.1 h1.2
      refine co9_ok (nx_sell h hu h1.1 h1.2 h2 (by omega)) t.2.2.2.1 ?_ e2
      unfold fX12_commandSell
      rw [hf, xcall_s]
      show xcall (fX3_sellCostumes N (iI k) (iI p) t.1) _ = _
      rw [e1, xcall_s]
    · rw [if_pos (by omega)] at hf
      rw [if_neg h2]
      exact co9_no 4 (go 4 (by omega) (by omega) hf) (by omega)
  · rw [if_pos h1] at hf
    rw [if_neg h1]
    exact co9_no 3 (go 3 (by omega) (by omega) hf) (by omega)
theorem co9_bill (hR : RBo t.1 S) (h : WS a b S) (hu : a + b + 1 ≤ 512) {m : Int} (hm : -2147483648 ≤ m ∧ m < 2147483648) : CO9 (fX12_commandBill N (iI m) t) t a b (gBill S m) := by
  have w := h.1
  have hl := w.2.2.2.2.1.1
  have hf := c_bNew N hR.2.2.2.2.1 w.2.2.2.2.1 hm
  have go : ∀ q, 0 < q → q < 6 → fX2_faultOfNew N (iI m) t.1.2.2.2.2.1 = some q → fX12_commandBill N (iI m) t = some (q, t) := fun q h0 h6 hq => by
    unfold fX12_commandBill
    rw [hq, xcall_s]
    unfold xjoin
    dsimp only
    rw [xnz_d h6, if_neg (by omega)]
  unfold gBill
  by_cases h1 : 1 ≤ m ∧ m ≤ 999
  · rw [if_neg (fun hh => hh h1)] at hf
    rw [if_pos h1]
    by_cases h2 : (gB S).1.length < 10
    · rw [if_neg (by omega)] at hf
      rw [if_pos h2]
      obtain ⟨b', e1, e2⟩ := c_writeBill N hR w h2 h1
      refine co9_ok (nx_bill h hu h2 h1) t.2.2.2.1 ?_ e2
      unfold fX12_commandBill
      rw [hf, xcall_s]
      show xcall (fX3_writeBill N (iI m) t.1) _ = _
      rw [e1, xcall_s]
    · rw [if_pos (by omega)] at hf
      rw [if_neg h2]
      exact co9_no 4 (go 4 (by omega) (by omega) hf) (by omega)
  · rw [if_pos h1] at hf
    rw [if_neg h1]
    exact co9_no 3 (go 3 (by omega) (by omega) hf) (by omega)
theorem co9_pay (hN : 2000 ≤ N) (hR : RBo t.1 S) (h : WS a b S) (hu : a + b + 1 ≤ 512) {m : Int} (hm : -2147483648 ≤ m ∧ m < 2147483648) : CO9 (fX12_commandPay N (iI m) t) t a b (gPay S m) := by
  have w := h.1
  have hf := c_bPay hN hR.2.2.2.2.1 w.2.2.2.2.1 hm
  have go : ∀ q, 0 < q → q < 6 → fX2_faultOfPayment N (iI m) t.1.2.2.2.2.1 = some q → fX12_commandPay N (iI m) t = some (q, t) := fun q h0 h6 hq => by
    unfold fX12_commandPay
    rw [hq, xcall_s]
    unfold xjoin
    dsimp only
    rw [xnz_d h6, if_neg (by omega)]
  unfold gPay
  by_cases h1 : 1 ≤ m ∧ m ≤ 999
  · rw [if_neg (fun hh => hh h1)] at hf
    rw [if_pos h1]
    by_cases h2 : m ≤ bSum (gB S).1
    · rw [if_neg (by omega)] at hf
      rw [if_pos h2]
      obtain ⟨u, u1⟩ := c_chosenSet (t := t.2.2.2.1) hN hR.2.2.2.2.1 w.2.2.2.2.1 h1
      obtain ⟨b', e1, e2⟩ := c_takePayment hN hR w h1
      refine co9_ok (nx_pay h hu h1) u ?_ e2
      unfold fX12_commandPay
      rw [hf, xcall_s]
      show xcall (fX7_chosenSet N (iI m) t.2.2.2.1 t.1.2.2.2.2.1) _ = _
      rw [u1, xcall_s]
      show xcall (fX3_takePayment N (iI m) (iI (chS S m : Int)) t.1) _ = _
      rw [e1, xcall_s]
    · rw [if_pos (by omega)] at hf
      rw [if_neg h2]
      exact co9_no 4 (go 4 (by omega) (by omega) hf) (by omega)
  · rw [if_pos h1] at hf
    rw [if_neg h1]
    exact co9_no 3 (go 3 (by omega) (by omega) hf) (by omega)
theorem co9_wait (hN : 2000 ≤ N) (hR : RBo t.1 S) (h : WS a b S) (hu : a + b + 1 ≤ 512) {z : Int} (hz : -2147483648 ≤ z ∧ z < 2147483648) : CO9 (fX12_commandWait N (iI z) t) t a b (gPass S z) := by
  have w := h.1
  have hf := c_fHours N hz
  obtain ⟨q1, q2, q3, q4, q5, q6⟩ := h.2.rng (by omega)
  unfold gPass
  by_cases h1 : 1 ≤ z ∧ z ≤ 24
  · rw [if_pos h1] at hf
    rw [if_pos h1]
    obtain ⟨b', e1, e2⟩ := c_letPass hN hR w (k := z.toNat) (by omega) (by omega) (by omega)
    rw [Int.toNat_of_nonneg (by omega)] at e1
    refine co9_ok (nx_pass h hu (k := z.toNat) (by omega)) t.2.2.2.1 ?_ e2
    unfold fX12_commandWait
    rw [hf, xcall_s]
    show xcall (fX3_letPass N (iI z) t.1) _ = _
    rw [e1, xcall_s]
  · rw [if_neg h1] at hf
    rw [if_neg h1]
    refine co9_no 3 ?_ (by omega)
    unfold fX12_commandWait
    rw [hf, xcall_s]
    rfl
theorem co9_fall (hN : 2000 ≤ N) (hR : RBo t.1 S) (h : WS a b S) (hu : a + b + 1 ≤ 512) : CO9 (xcall (fX3_dropCurtain N t.1) fun q => some (0, Thls0 t q.2)) t a b (gFall S) := by
  obtain ⟨f1, f2, f3⟩ := fall_ok h hu
  obtain ⟨b', e1, e2⟩ := c_dropCurtain hN hR h.1 f1 f2
  refine co9_ok (nx_fall h hu) t.2.2.2.1 ?_ e2
  rw [e1, xcall_s]
theorem co9_open (hR : RBo t.1 S) (h : WS a b S) {k p : Int} (hk : isKdB k = true) (hp : -1 ≤ p ∧ p < 65536) : CO9 (fX12_commandOpen N (iI k) (iI p) t) t a b (gOpenC S k p) := by
  have w := h.1
  have hk1 := isKdB_t hk
  have hkc := hk1.2
  unfold isCh at hkc
  have hn := w.1.2.1
  unfold gOpenC
  by_cases e : p = -1
  · subst e
    have hf := c_fNew N hR.1 w.fr.1 (k := k) (by omega)
    rw [if_neg (by rw [hk]; decide)] at hf
    rw [if_pos rfl]
    by_cases h2 : aN (gA S) < 12
    · rw [if_neg (by omega)] at hf
      rw [if_pos h2]
      obtain ⟨a', e1, e2⟩ := c_add N hR.1 w.wa h2 (k := k) (p := -1) hkc.1 hkc.2
      refine co9_ok (nx_open h h2 hk1.1 (by omega)) t.2.2.2.1 (b' := Boos0 t.1 a') ?_ ⟨e2, hR.2⟩
      unfold fX12_commandOpen
      unfold xjoin
      dsimp only
      rw [if_pos (show iI (-1) = (-1 : Int32) from rfl), hf, xcall_s]
      show xcall (fX1_add N (iI k) (iI (-1)) t.1.1) _ = _
      rw [e1, xcall_s]
    · rw [if_pos (by omega)] at hf
      rw [if_neg h2]
      refine co9_no 4 ?_ (by omega)
      unfold fX12_commandOpen
      unfold xjoin
      dsimp only
      rw [if_pos (show iI (-1) = (-1 : Int32) from rfl), hf, xcall_s]
      rfl
  · have hf := c_fNewBelow N hR.1 w.fr.1 (z := p) (by omega)
    have hne : ¬ iI p = (-1 : Int32) := by
      show ¬ iI p = iI (-1)
      rw [i_eq (by omega) (by omega) (by omega) (by omega)]; exact e
    rw [if_neg e]
    by_cases h1 : 0 ≤ p ∧ p < aN (gA S)
    · rw [if_neg (fun hh => hh h1)] at hf
      rw [if_pos h1]
      have hkk := w.wa.rk (i := p.toNat) (by omega)
      by_cases h2 : aN (gA S) < 12
      · rw [if_neg (by omega)] at hf
        rw [if_pos h2]
        have e3 := c_kindAt N hR.1 w.wa (i := p.toNat) (by omega)
        rw [Int.toNat_of_nonneg h1.1] at e3
        by_cases h3 : aK (gA S) p.toNat = k
        · rw [if_pos h3]
          obtain ⟨a', e1, e2⟩ := c_add N hR.1 w.wa h2 (k := k) (p := p) hkc.1 hkc.2
          refine co9_ok (nx_open h h2 hk1.1 (by omega)) t.2.2.2.1 (b' := Boos0 t.1 a') ?_ ⟨e2, hR.2⟩
          unfold fX12_commandOpen
          unfold xjoin
          dsimp only
          rw [if_neg hne, hf, xcall_s]
          rw [xnz_d (by omega), if_pos rfl, if_neg hne, e3, xcall_s, if_pos (by rw [h3]), e1, xcall_s]
        · rw [if_neg h3]
          have h3' : ¬ iI (aK (gA S) p.toNat) = iI k := by rw [i_eq (by omega) (by omega) (by omega) (by omega)]; exact h3
          refine co9_no 3 ?_ (by omega)
          unfold fX12_commandOpen
          unfold xjoin
          dsimp only
          rw [if_neg hne, hf, xcall_s]
          rw [xnz_d (by omega), if_pos rfl, if_neg hne, e3, xcall_s, if_neg h3']
      · rw [if_pos (by omega)] at hf
        rw [if_neg h2]
        refine co9_no 4 ?_ (by omega)
        unfold fX12_commandOpen
        unfold xjoin
        dsimp only
        rw [if_neg hne, hf, xcall_s]
        rfl
    · rw [if_pos h1] at hf
      rw [if_neg h1]
      refine co9_no 1 ?_ (by omega)
      unfold fX12_commandOpen
      unfold xjoin
      dsimp only
      rw [if_neg hne, hf, xcall_s]
      rfl
theorem co9_all (hN : 2000 ≤ N) {C : List (Nat × List Int)} (hC : RCm t.2.2.2.2.1 C) {i : Nat} {c : Nat × List Int} (hc : C[i]? = some c) (hi : i < 12) (hV : VC c) (hR : RBo t.1 S) (h : WS a b S) (hu : a + b + 1 ≤ 512) : CO9 (fX12_carryOut N (iI (i : Int)) t) t a b (gCmd S c) := by
  rw [co_disp N hC hc hi]
  obtain ⟨j, vs⟩ := c
  obtain ⟨q1, q2, q3⟩ := hV
  have r0 := q2 0
  have r1 := q2 1
  have r2 := q2 2
  dsimp only at q1 q3 r0 r1 r2 ⊢
  unfold coB gCmd
  dsimp only
  obtain rfl | rfl | rfl | rfl | rfl | rfl | rfl | rfl | rfl : j = 0 ∨ j = 1 ∨ j = 2 ∨ j = 3 ∨ j = 4 ∨ j = 5 ∨ j = 6 ∨ j = 7 ∨ j = 8 := by omega
  · rw [if_pos (by decide), xcall_eta, if_pos rfl]
    exact co9_post hR h hu (by omega) (by omega) (by omega)
  · rw [if_neg (by decide), if_pos (by decide), xcall_eta, if_neg (by decide), if_pos rfl]
    exact co9_back hR h hu (by omega)
  · have hk := q3 rfl
    have hkd := (isKdB_t hk).1
    unfold isKd at hkd
    rw [if_neg (by decide), if_neg (by decide), if_pos (by decide), xcall_eta, ascii (by omega), if_neg (by decide), if_neg (by decide), if_pos rfl]
    exact co9_open hR h hk r1
  · rw [if_neg (by decide), if_neg (by decide), if_neg (by decide), if_pos (by decide), xcall_eta, if_neg (by decide), if_neg (by decide), if_neg (by decide), if_pos rfl]
    exact co9_buy hR h hu (by omega) (by omega)
  · rw [if_neg (by decide), if_neg (by decide), if_neg (by decide), if_neg (by decide), if_pos (by decide), xcall_eta, if_neg (by decide), if_neg (by decide), if_neg (by decide), if_neg (by decide), if_pos rfl]
    exact co9_sell hN hR h hu (by omega) (by omega)
  · rw [if_neg (by decide), if_neg (by decide), if_neg (by decide), if_neg (by decide), if_neg (by decide), if_pos (by decide), xcall_eta, if_neg (by decide), if_neg (by decide), if_neg (by decide), if_neg (by decide), if_neg (by decide), if_pos rfl]
    exact co9_bill hR h hu (by omega)
  · rw [if_neg (by decide), if_neg (by decide), if_neg (by decide), if_neg (by decide), if_neg (by decide), if_neg (by decide), if_pos (by decide), xcall_eta, if_neg (by decide), if_neg (by decide), if_neg (by decide), if_neg (by decide), if_neg (by decide), if_neg (by decide), if_pos rfl]
    exact co9_pay hN hR h hu (by omega)
  · rw [if_neg (by decide), if_neg (by decide), if_neg (by decide), if_neg (by decide), if_neg (by decide), if_neg (by decide), if_neg (by decide), if_pos (by decide), if_neg (show ¬ (7 : Nat) = 0 by decide), if_neg (show ¬ (7 : Nat) = 1 by decide), if_neg (show ¬ (7 : Nat) = 2 by decide), if_neg (show ¬ (7 : Nat) = 3 by decide), if_neg (show ¬ (7 : Nat) = 4 by decide), if_neg (show ¬ (7 : Nat) = 5 by decide), if_neg (show ¬ (7 : Nat) = 6 by decide), if_pos (show (7 : Nat) = 7 from rfl)]
    by_cases e : vs.getD 0 (-1) = -1
    · rw [if_pos (show iI (vs.getD 0 (-1)) = (-1 : Int32) by rw [e]; rfl), xcall_eta, if_pos e]
      exact co9_wait hN hR h hu (z := 1) (by omega)
    · rw [if_neg (show ¬ iI (vs.getD 0 (-1)) = (-1 : Int32) by show ¬ iI (vs.getD 0 (-1)) = iI (-1); rw [i_eq (by omega) (by omega) (by omega) (by omega)]; exact e), xcall_eta, if_neg e]
      exact co9_wait hN hR h hu (by omega)
  · rw [if_neg (by decide), if_neg (by decide), if_neg (by decide), if_neg (by decide), if_neg (by decide), if_neg (by decide), if_neg (by decide), if_neg (by decide), if_pos (by decide), if_neg (by decide), if_neg (by decide), if_neg (by decide), if_neg (by decide), if_neg (by decide), if_neg (by decide), if_neg (by decide), if_neg (by decide)]
    exact co9_fall hN hR h hu
end CO9s
def RU9 (C : List (Nat × List Int)) (Kc : Int32 → ThlS → (Nat → BooS) → Option (Nat × Int32 × ThlS × (Nat → BooS))) (lc : Option (Nat × Int32 × ThlS × (Nat → BooS))) (t : ThlS) (r : Nat → BooS) (A a b : Nat) (g : Option Nat × SG) : Prop := (∃ S' t' a' b', a' + b' = A ∧ a ≤ a' ∧ b ≤ b' ∧ WS a' b' S' ∧ lc = Kc (iI (C.length : Int)) t' r ∧ RBo t'.1 S' ∧ qC t t' ∧ g = (none, S')) ∨ (∃ (k : Nat) (t' : ThlS) (S' : SG), k < C.length ∧ lc = Kc (iI (k : Int)) t' r ∧ qC t t' ∧ g = (some k, S'))
theorem drop_cons {α : Type} {C : List α} {i : Nat} {c : α} (h : C[i]? = some c) : C.drop i = c :: C.drop (i + 1) := by
  obtain ⟨h1, h2⟩ := List.getElem?_eq_some_iff.mp h
  rw [← h2]
  exact List.drop_eq_getElem_cons h1
theorem run9_loop {N : Nat} (hN : 2000 ≤ N) {C : List (Nat × List Int)} (hC12 : C.length ≤ 12) (hV : ∀ c ∈ C, VC c) (Kc : Int32 → ThlS → (Nat → BooS) → Option (Nat × Int32 × ThlS × (Nat → BooS))) (r : Nat → BooS) : ∀ (m n i : Nat) (t : ThlS) (S : SG) (a b : Nat), i + m = C.length → m + 1 ≤ n → RCm t.2.2.2.2.1 C → RBo t.1 S → WS a b S → a + b + m ≤ 512 → RU9 C Kc (fX12_runCommands_L55 N Kc n (iI (i : Int)) t r) t r (a + b + m) a b (gRun (C.drop i) i S) := by
  intro m
  induction m with
  | zero =>
    intro n i t S a b him hn hC hR h hu
    obtain ⟨n, rfl⟩ : ∃ k, n = k + 1 := ⟨n - 1, by omega⟩
    obtain rfl : i = C.length := by omega
    refine .inl ⟨S, t, a, b, by omega, Nat.le_refl _, Nat.le_refl _, h, ?_, hR, qC.rf t, ?_⟩
    · rw [fX12_runCommands_L55, hC.1, if_pos (by rw [i_le (by omega) (by omega) (by omega) (by omega)]; omega)]
    · rw [List.drop_length]
      rfl
  | succ m ih =>
    intro n i t S a b him hn hC hR h hu
    obtain ⟨n, rfl⟩ : ∃ k, n = k + 1 := ⟨n - 1, by omega⟩
    obtain ⟨c, hc⟩ : ∃ c, C[i]? = some c := ⟨_, List.getElem?_eq_getElem (by omega)⟩
    have hco := co9_all hN hC hc (by omega) (hV c (List.mem_of_getElem? hc)) hR h (by omega)
    have e1 : iI (i : Int) + 1 = iI ((i + 1 : Nat) : Int) := by rw [i_lit, i_add]; rfl
    rw [fX12_runCommands_L55, hC.1, if_neg (by rw [i_le (by omega) (by omega) (by omega) (by omega)]; omega), drop_cons hc, gRun]
    rcases hco with ⟨g0, ⟨a2, b2, n1, n2', n3, n4⟩, b', u, c1, c2⟩ | ⟨q0, q6, c1⟩
    · rw [c1, xcall_s, if_pos g0]
      have hr := ih n (i + 1) (Thls3 (Thls0 t b') u) _ a2 b2 (by omega) (by omega) hC c2 n4 (by omega)
      have hz : a2 + b2 + m = a + b + (m + 1) := by omega
      unfold xlet
      dsimp only
      rw [xnz_d (by omega), if_pos rfl, e1]
      rw [hz] at hr
      have qt : qC t (Thls3 (Thls0 t b') u) := qC.rf t
      rcases hr with ⟨S2, t2, a3, b3, d1, d2, d3, d4, d5, d6, d7, d8⟩ | ⟨k, t2, S2, d1, d2, d3, d4⟩
      · exact .inl ⟨S2, t2, a3, b3, d1, by omega, by omega, d4, d5, d6, qt.tr d7, d8⟩
      · exact .inr ⟨k, t2, S2, d1, d2, qt.tr d3, d4⟩
    · refine .inr ⟨i, t, S, by omega, ?_, qC.rf t, by rw [if_neg (by omega)]⟩
      rw [c1, xcall_s]
      dsimp only
      rw [xnz_d q6, if_neg (by omega)]
section SRU9
variable {N : Nat} {t : ThlS} {r : Nat → BooS} {W : SO} {a b : Nat}
theorem g_run (hN : 2000 ≤ N) (hR : RT t r W) (hw : WO a b W) (hu : a + b + 12 ≤ 512) : ∃ t' r', fX12_runCommands N t r = some ((oRun W).1, iI (oRun W).2.1, t', r') ∧ RT t' r' (oRun W).2.2 ∧ ∃ a' b', a' + b' ≤ a + b + 12 ∧ WO a' b' (oRun W).2.2 := by
  obtain ⟨w1, w2, w3, w4, w5, w6, w7, w8⟩ := hw
  have hwg := w1.1
  obtain ⟨r1, r2, r3, r4, r5, r6, r7⟩ := hR
  have tx : TX (oT W) := w5
  have hl := tx.1
  obtain ⟨sc, x1, x2, x3, x4⟩ := c_read hN r4.1 r4.2 tx
  have rok : (rdT (oT W)).1 = true → (∀ c ∈ (rdT (oT W)).2.1, VC c) ∧ 5 * (rdT (oT W)).2.1.length + 0 ≤ 5 * ([] : List (Nat × List Int)).length + (rdT (oT W)).2.2 + 1 ∧ ([] : List (Nat × List Int)).length < (rdT (oT W)).2.1.length := fun h => rdC_ok tx 13 0 [] (fun c hc => absurd hc List.not_mem_nil) h
  rw [runc_K, x1, xcall_s]
  unfold oRun
  by_cases hg : (rdT (oT W)).1 = true ∧ (rdT (oT W)).2.2 = (oT W).length
  · rw [if_pos hg]
    obtain ⟨g1, g2⟩ := hg
    obtain ⟨v1, v2, v3⟩ := rok g1
    simp only [List.length_nil] at v2 v3
    have h3 : RH t.2.2.1 r (oH W) := r3
    obtain ⟨r', k, k1, k2, k3, k4, k5, k6⟩ := c_setAside N r1 hwg h3
    have hC : RCm (Scrs1 sc 0) (rdT (oT W)).2.1 := x3
    have hc12 := x3.1
    have lo := run9_loop hN (C := (rdT (oT W)).2.1) (by omega) v1 (cK N) r' (rdT (oT W)).2.1.length N 0 (Thls4 t (Scrs1 sc 0)) (oS W) a b (by omega) (by omega) hC r1 w1 (by omega)
    rw [List.drop_zero] at lo
    have ec : (if (iB ((rdT (oT W)).1 && decide ((rdT (oT W)).2.2 = (oT W).length))) = 0 then some (3, 0, (Thls8 (Thls4 t ((Scrs1 sc 0))) sc.2.2.2.2.2), r) else xcall (fX5_setAside N t.2.2.1 t.1 r) fun q3 => fX12_runCommands_L55 N (cK N) N 0 ((Thls4 (Thls2 (Thls0 t q3.2.1) q3.1) ((Scrs1 sc 0)))) q3.2.2) = fX12_runCommands_L55 N (cK N) N (iI ((0 : Nat) : Int)) (Thls4 t (Scrs1 sc 0)) r' := by
      rw [g1, decide_eq_true g2, if_neg (by decide), k2, xcall_s]
      rfl
    refine Exists.elim (show ∃ lc, lc = fX12_runCommands_L55 N (cK N) N (iI ((0 : Nat) : Int)) (Thls4 t (Scrs1 sc 0)) r' from ⟨_, rfl⟩) fun lc hlc => ?_
    rw [← hlc] at lo ec
    refine Exists.elim (show ∃ gc, gc = (if (iB ((rdT (oT W)).1 && decide ((rdT (oT W)).2.2 = (oT W).length))) = 0 then some (3, 0, (Thls8 (Thls4 t ((Scrs1 sc 0))) sc.2.2.2.2.2), r) else xcall (fX5_setAside N t.2.2.1 t.1 r) fun q3 => fX12_runCommands_L55 N (cK N) N 0 ((Thls4 (Thls2 (Thls0 t q3.2.1) q3.1) ((Scrs1 sc 0)))) q3.2.2) from ⟨_, rfl⟩) fun gc hgc => ?_
    rw [← hgc] at ec
    refine Exists.elim (show ∃ o, o = gRun (rdT (oT W)).2.1 0 (oS W) from ⟨_, rfl⟩) fun o ho => ?_
    rw [← ho] at lo
    rw [← ho]
    show ∃ t' r', (if (iB ((rdT (oT W)).1 && decide ((rdT (oT W)).2.2 = (oT W).length))) = 0 then some (3, 0, (Thls8 (Thls4 t ((Scrs1 sc 0))) sc.2.2.2.2.2), r) else xcall (fX5_setAside N t.2.2.1 t.1 r) fun q3 => fX12_runCommands_L55 N (cK N) N 0 ((Thls4 (Thls2 (Thls0 t q3.2.1) q3.1) ((Scrs1 sc 0)))) q3.2.2) = some (_, _, t', r') ∧ _
    rw [← hgc, ec]
    clear hgc ec hlc ho
    rcases lo with ⟨S', t', a', b', d1, d2, d3, d4, d5, d6, ⟨f1, f2, f3⟩, d8⟩ | ⟨k9, t', S', d1, d2, ⟨f1, f2, f3⟩, d4⟩
    · subst d8
      have f2 : t'.2.2.1 = t.2.2.1 := f2
      obtain ⟨his, e1, e2⟩ := c_keepAside N k3 (S := oS W) (fun f hf hlt => by rw [← k6 f hf hlt]; exact k4)
      refine ⟨Thls2 t' his, r', ?_, ?_, ?_⟩
      · rw [d5]
        unfold cK
        rw [f3]
        show (if sc.2.2.2.2.1 ≤ _ then xcall (fX5_keepAside N t'.2.2.1) _ else _) = _
        rw [x3.1, if_pos (by rw [i_le (by omega) (by omega) (by omega) (by omega)]; omega), f2, e1, xcall_s]
      · show RBo t'.1 S' ∧ RV t'.2.2.2.2.2.2.2.1 t'.2.1 (oV W) ∧ RH his r' (pushH (oH W) (oS W)) ∧ RSc t'.2.2.2.2.1 [] ∧ (t'.2.2.2.2.2.2.1 = iI ((oO W).length : Int) ∧ AC t'.2.2.2.2.2.1 (oO W)) ∧ t'.2.2.2.2.2.2.2.2.1 = iI (oE W) ∧ t'.2.2.2.2.2.2.2.2.2 = iI (oF W)
        rw [f3, f1]
        exact ⟨d6, r2, e2, ⟨rfl, AC.nil _⟩, r5, r6, r7⟩
      · refine ⟨a', b', by omega, d4, fun S hS => ?_, fun S hS => (w3 S hS).more d2 d3, (pushH_len w4).1, ⟨Nat.zero_le _, fun c hc => absurd hc List.not_mem_nil⟩, w6, w7, w8⟩
        rcases pushH_mem hS with h9 | h9
        · exact (w2 S h9).more d2 d3
        · rw [h9]; exact w1.more d2 d3
    · subst d4
      have f2 : t'.2.2.1 = t.2.2.1 := f2
      obtain ⟨b9, e1, e2⟩ := c_bookCopy (b := t'.1) N k4 hwg
      refine ⟨Thls9 (Thls2 (Thls0 t' b9) t.2.2.1) (iI (k9 : Int)), r', ?_, ?_, ?_⟩
      · rw [d2]
        unfold cK
        rw [f3]
        show (if sc.2.2.2.2.1 ≤ _ then _ else xcall (fX5_putBack N t'.2.2.1 t'.1 r') _) = _
        rw [x3.1, if_neg (by rw [i_le (by omega) (by omega) (by omega) (by omega)]; omega), f2]
        unfold fX5_putBack
        rw [k5, xcall_s, xnz_d k1, e1, xcall_s, xcall_s, uprow_self]
        rfl
      · show RBo b9 (oS W) ∧ RV t'.2.2.2.2.2.2.2.1 t'.2.1 (oV W) ∧ RH t.2.2.1 r' (oH W) ∧ RSc t'.2.2.2.2.1 [] ∧ (t'.2.2.2.2.2.2.1 = iI ((oO W).length : Int) ∧ AC t'.2.2.2.2.2.1 (oO W)) ∧ t'.2.2.2.2.2.2.2.2.1 = iI (oE W) ∧ iI (k9 : Int) = iI (k9 : Int)
        rw [f3, f1]
        exact ⟨e2, r2, k3, ⟨rfl, AC.nil _⟩, r5, r6, rfl⟩
      · refine ⟨a, b, by omega, w1, w2, w3, w4, ⟨Nat.zero_le _, fun c hc => absurd hc List.not_mem_nil⟩, w6, w7, ?_⟩
        show -1 ≤ (k9 : Int) ∧ (k9 : Int) ≤ 60
        omega
  · rw [if_neg hg]
    have hc : iB ((rdT (oT W)).1 && decide ((rdT (oT W)).2.2 = (oT W).length)) = 0 := by
      cases h : (rdT (oT W)).1 with
      | false => rfl
      | true => rw [decide_eq_false (fun h2 => hg ⟨h, h2⟩)]; rfl
    refine ⟨Thls8 (Thls4 t (Scrs1 sc 0)) sc.2.2.2.2.2, r, ?_, ⟨r1, r2, r3, ⟨rfl, AC.nil _⟩, r5, x2.2.2, r7⟩, a, b, by omega, w1, w2, w3, w4, ⟨Nat.zero_le _, fun c hc => absurd hc List.not_mem_nil⟩, w6, ?_, w8⟩
    · rw [if_pos hc]
      rfl
    · show -1 ≤ ((rdT (oT W)).2.2 : Int) ∧ ((rdT (oT W)).2.2 : Int) ≤ 60
      omega
end SRU9
