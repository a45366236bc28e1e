/-! ===== a command carried out, class and reference ===== -/
def VC (c : Nat × List Int) : Prop := c.1 < 9 ∧ (∀ i, -1 ≤ c.2.getD i (-1) ∧ c.2.getD i (-1) < 65536) ∧ (c.1 = 2 → isKdB (c.2.getD 0 (-1)) = true)
theorem pts_rng {T : List Int} (w : TX T) : ∀ (L : List Int) (q i : Nat), -1 ≤ (pts T L q).2.1.getD i (-1) ∧ (pts T L q).2.1.getD i (-1) < 65536 := by
  intro L
  have nil : ∀ i : Nat, -1 ≤ ([] : List Int).getD i (-1) ∧ ([] : List Int).getD i (-1) < 65536 := fun i => by
    rw [List.getD_eq_getElem?_getD, List.getElem?_nil]
    exact ⟨Int.le_refl _, show (-1 : Int) < 65536 by decide⟩
  induction L with
  | nil => intro q i; exact nil i
  | cons c r ih =>
    intro q i
    have hv := rdV_rng w c (q + 1)
    rw [pts]
    split
    · split
      · exact nil i
      · cases i with
        | zero => exact hv
        | succ i => exact ih _ i
    · exact nil i
theorem cmd_vc {T : List Int} (w : TX T) {p : Nat} (h : (cmdS T p).1 = true) {c : Nat × List Int} (hc : (cmdS T p).2.1 = some c) : VC c := by
  have hw := wdF_len T p 9 0
  rw [Nat.sub_self] at hw
  unfold cmdS at h hc
  cases e : wdF T p 9 0 0 with
  | mk o q =>
    rw [e] at h hc hw
    cases o with
    | none => exact absurd h (by simp)
    | some j =>
      obtain ⟨h1, h2⟩ := hw j rfl (by omega)
      have hc : (j, (pts T (wT (fmS j)) q).2.1) = c := Option.some.inj hc
      have h : (pts T (wT (fmS j)) q).1 = true := h
      subst hc
      refine ⟨h2, fun i => pts_rng w _ _ i, fun hj => ?_⟩
      have hj : j = 2 := hj
      subst hj
      have hF : wT (fmS 2) = [107, 68] := rfl
      show isKdB ((pts T (wT (fmS 2)) q).2.1.getD 0 (-1)) = true
      rw [hF] at h ⊢
      rw [pts] at h ⊢
      by_cases g : hr T q = 32
      · rw [if_pos g] at h ⊢
        have hv : rdV T 107 (q + 1) = if isKdB (hr T (q + 1)) = true then (hr T (q + 1), q + 1 + 1) else (-1, q + 1) := by unfold rdV; rw [if_pos rfl]
        rw [hv] at h ⊢
        by_cases k : isKdB (hr T (q + 1)) = true
        · have k2 := (isKdB_t k).2
          unfold isCh at k2
          rw [if_pos k] at h ⊢
          dsimp only at h ⊢
          rw [if_neg (show ¬ hr T (q + 1) = -1 by omega)]
          exact k
        · rw [if_neg k] at h
          exact absurd h (by simp)
      · rw [if_neg g] at h
        exact absurd h (by simp)
theorem rdC_ok {T : List Int} (w : TX T) : ∀ (k p : Nat) (C : List (Nat × List Int)), (∀ c ∈ C, VC c) → (rdC T k p C).1 = true → (∀ c ∈ (rdC T k p C).2.1, VC c) ∧ 5 * (rdC T k p C).2.1.length + p ≤ 5 * C.length + (rdC T k p C).2.2 + 1 ∧ C.length < (rdC T k p C).2.1.length := by
  intro k
  induction k with
  | zero => intro p C _ h; exact absurd h (by simp [rdC])
  | succ k ih =>
    intro p C hC h
    rw [rdC] at h ⊢
    have nx : (cmdS T p).1 = true → (∀ c ∈ C ++ (cmdS T p).2.1.toList, VC c) ∧ (C ++ (cmdS T p).2.1.toList).length = C.length + 1 ∧ p + 4 ≤ (cmdS T p).2.2 := fun hok => by
      obtain ⟨c4, c1⟩ := cmd_4 hok
      refine ⟨fun c hc => ?_, by rw [List.length_append, c1], c4⟩
      rcases List.mem_append.mp hc with h9 | h9
      · exact hC c h9
      · exact cmd_vc w hok (Option.mem_toList.mp h9)
    split
    · rename_i e
      rw [if_pos e] at h
      obtain ⟨n1, n2, n3⟩ := nx e.1.1
      obtain ⟨i1, i2, i3⟩ := ih ((cmdS T p).2.2 + 1) _ n1 h
      exact ⟨i1, by omega, by omega⟩
    · rename_i e
      rw [if_neg e] at h
      obtain ⟨n1, n2, n3⟩ := nx h
      refine ⟨n1, ?_, ?_⟩
      · show 5 * (C ++ (cmdS T p).2.1.toList).length + p ≤ 5 * C.length + (cmdS T p).2.2 + 1
        omega
      · show C.length < (C ++ (cmdS T p).2.1.toList).length
        omega
/-- alike: either both do it, or both refuse -/
def COr (ci : Option (Nat × ThlS)) (cm : Option (Int32 × MS)) (t : ThlS) (s : MS) (a b : Nat) : Prop := (∃ S' b' u v g', NX a b S' ∧ ci = some (0, Thls3 (Thls0 t b') u) ∧ RBo b' S' ∧ cm = some (v, Ms12 (Ms0 s g') (iI 0)) ∧ GG g' S') ∨ (∃ q v k, 0 < q ∧ q < 6 ∧ ci = some (q, t) ∧ cm = some (v, Ms12 s (iI k)) ∧ 1 ≤ k ∧ k ≤ 9)
theorem co_no {ci : Option (Nat × ThlS)} {cm : Option (Int32 × MS)} {t : ThlS} {s : MS} {a b : Nat} (q : Nat) (k : Int) {v : Int32} (hc : ci = some (q, t)) (hm : cm = some (v, Ms12 s (iI k))) (hq : 0 < q ∧ q < 6) (hk : 1 ≤ k ∧ k ≤ 9) : COr ci cm t s a b := .inr ⟨q, v, k, hq.1, hq.2, hc, hm, hk.1, hk.2⟩
theorem co_ok {ci : Option (Nat × ThlS)} {cm : Option (Int32 × MS)} {t : ThlS} {s : MS} {a b : Nat} {S' : SG} (n : NX a b S') {b' : BooS} (u : MatS) (hc : ci = some (0, Thls3 (Thls0 t b') u)) (hb : RBo b' S') {v : Int32} (hm : ∃ g', cm = some (v, Ms12 (Ms0 s g') (iI 0)) ∧ GG g' S') : COr ci cm t s a b := by
  obtain ⟨g', h1, h2⟩ := hm
  exact .inl ⟨S', b', u, v, g', n, hc, hb, h1, h2⟩
section CO2
variable {N : Nat} {t : ThlS} {s : MS} {S : SG} {a b : Nat}
theorem co_post (hN : 2000 ≤ N) (hR : RBo t.1 S) (hM : GG s.1 S) (h : WS a b S) (hu : a + b + 1 ≤ 512) {d c m : Int} (hd : -2147483648 ≤ d ∧ d < 2147483648) (hc : -2147483648 ≤ c ∧ c < 2147483648) (hm : -2147483648 ≤ m ∧ m < 2147483648) : COr (fX12_commandPost N (iI d) (iI c) (iI m) t) (fX13_posts N (iI d) (iI c) (iI m) s) t s a b := by
  have w := h.1
  have hf := c_fEntry N hR.1 w.fr.1 hd hc hm
  have hle := whyE_le (aN (gA S)) d c m
  have hp := m_posts hN hM w hd hc hm
  by_cases h1 : whyE (aN (gA S)) d c m = 0
  · obtain ⟨hd2, hc2, hne, hm2⟩ := whyE_0 h1
    rw [if_neg (by omega), if_neg (by omega)] at hf
    obtain ⟨b', e1, e2⟩ := c_ent N hR w (d := d.toNat) (c := c.toNat) (by omega) (by omega) m
    rw [Int.toNat_of_nonneg hd2.1, Int.toNat_of_nonneg hc2.1] at e1
    refine co_ok (nx_post h hu (by omega) (by omega) hm2) t.2.2.2.1 ?_ e2 (hp.2 h1)
    unfold fX12_commandPost
    rw [hf, xcall_s]
    show xcall (fX3_makeEntry N (iI d) (iI c) ((iI m).toInt64) t.1) _ = _
    rw [i_toL hm.1 hm.2, e1, xcall_s]
  · have hp1 := hp.1 h1
    by_cases h2 : whyE (aN (gA S)) d c m = 1
    · rw [if_pos h2] at hf
      rw [h2] at hp1
      refine co_no 1 1 ?_ hp1 (by omega) (by omega)
      unfold fX12_commandPost
      rw [hf, xcall_s]
      rfl
    · have h3 : whyE (aN (gA S)) d c m = 2 := by omega
      rw [if_neg h2, if_pos h3] at hf
      rw [h3] at hp1
      refine co_no 3 2 ?_ hp1 (by omega) (by omega)
      unfold fX12_commandPost
      rw [hf, xcall_s]
      rfl
theorem co_back (hN : 2000 ≤ N) (hR : RBo t.1 S) (hM : GG s.1 S) (h : WS a b S) (hu : a + b + 1 ≤ 512) {z : Int} (hz : -2147483648 ≤ z ∧ z < 2147483648) : COr (fX12_commandBack N (iI z) t) (fX13_reverses N (iI z) s) t s a b := by
  have w := h.1
  have hf := c_fRev N hR.2.1 w.2.1 hz
  have hg := (h.2.rng (by omega)).2.2.1
  have hk := jK_le (gJ S)
  have hk2 : jK (gJ S) ≤ jN (gJ S) := by unfold jK; omega
  have hp := m_reverses hN hM w hz
  by_cases h1 : (jN (gJ S) : Int) - jK (gJ S) ≤ z ∧ z < jN (gJ S)
  · rw [if_neg (fun hh => hh h1)] at hf
    by_cases h2 : jM (gJ S) z.toNat = 0
    · rw [if_pos h2] at hf
      obtain ⟨b', e1, e2⟩ := c_rev N hR w (by omega) (e := z.toNat) (by omega) (by omega)
      rw [Int.toNat_of_nonneg (by omega)] at e1
      refine co_ok (nx_rev h hu (by omega) (by omega) h2) t.2.2.2.1 ?_ e2 ((hp.2 h1).2 h2)
      unfold fX12_commandBack
      rw [hf, xcall_s]
      show xcall (fX3_makeReversal N (iI z) t.1) _ = _
      rw [e1, xcall_s]
    · rw [if_neg h2] at hf
      refine co_no 4 2 ?_ ((hp.2 h1).1 h2) (by omega) (by omega)
      unfold fX12_commandBack
      rw [hf, xcall_s]
      rfl
  · rw [if_pos h1] at hf
    refine co_no 2 1 ?_ (hp.1 h1) (by omega) (by omega)
    unfold fX12_commandBack
    rw [hf, xcall_s]
    rfl
theorem co_buy (hN : 2000 ≤ N) (hR : RBo t.1 S) (hM : GG s.1 S) (h : WS a b S) (hu : a + b + 1 ≤ 512) {k p : Int} (hk : -2147483648 ≤ k ∧ k < 2147483648) (hp : -2147483648 ≤ p ∧ p < 2147483648) : COr (fX12_commandBuy N (iI k) (iI p) t) (fX13_buys N (iI k) (iI p) s) t s a b := by
  have w := h.1
  have hf := c_fBuy N hR w hk hp
  have hl := w.2.2.2.1.1
  have hb := m_buys hN hM w hk hp
  have go : ∀ q, 0 < q → q < 6 → fX3_faultOfBuying N (iI k) (iI p) t.1 = some q → fX12_commandBuy N (iI k) (iI p) t = some (q, t) := fun q h0 h6 hq => by
    unfold fX12_commandBuy
    rw [hq, xcall_s]
    unfold xjoin
    dsimp only
    rw [xnz_d h6, if_neg (by omega)]
  by_cases h1 : (1 ≤ k ∧ k ≤ 20) ∧ (1 ≤ p ∧ p ≤ 40)
  · rw [if_neg (fun hh => hh h1)] at hf
    by_cases h2 : (gL S).length < 8
    · rw [if_neg (by omega)] at hf
      by_cases h3 : k * p ≤ bal (gA S) 0
      · rw [if_neg (by omega)] at hf
        obtain ⟨b', e1, e2⟩ := c_buyLot N hR w h2 h1.1 h1.2
        refine co_ok (nx_buy h hu h2 h1.1 h1.2) t.2.2.2.1 ?_ e2 (((hb.2 h1).2 h2).2 h3)
        unfold fX12_commandBuy
        rw [hf, xcall_s]
        show xcall (fX3_buyLot N (iI k) (iI p) t.1) _ = _
        rw [e1, xcall_s]
      · rw [if_pos (by omega)] at hf
        exact co_no 5 3 (go 5 (by omega) (by omega) hf) (((hb.2 h1).2 h2).1 (by omega)) (by omega) (by omega)
    · rw [if_pos (by omega)] at hf
      exact co_no 4 2 (go 4 (by omega) (by omega) hf) ((hb.2 h1).1 (by omega)) (by omega) (by omega)
  · rw [if_pos h1] at hf
    exact co_no 3 1 (go 3 (by omega) (by omega) hf) (hb.1 h1) (by omega) (by omega)
theorem co_sell (hN : 2000 ≤ N) (hR : RBo t.1 S) (hM : GG s.1 S) (h : WS a b S) (hu : a + b + 1 ≤ 512) {k p : Int} (hk : -2147483648 ≤ k ∧ k < 2147483648) (hp : -2147483648 ≤ p ∧ p < 2147483648) : COr (fX12_commandSell N (iI k) (iI p) t) (fX13_sells N (iI k) (iI p) s) t s a b := by
  have w := h.1
  have hf := c_fSell hN hR.2.2.2.1 w.2.2.2.1 hk hp
  have go : ∀ q, 0 < q → q < 6 → fX11_faultOfSelling N (iI k) (iI p) t.1.2.2.2.1 = some q → fX12_commandSell N (iI k) (iI p) t = some (q, t) := fun q h0 h6 hq => by
    unfold fX12_commandSell
    rw [hq, xcall_s]
    unfold xjoin
    dsimp only
    rw [xnz_d h6, if_neg (by omega)]
  by_cases h1 : (1 ≤ k ∧ k ≤ 20) ∧ (1 ≤ p ∧ p ≤ 40)
  · rw [if_neg (fun hh => hh h1)] at hf
    obtain ⟨w1, w2⟩ := sell_W1 h hu h1.1 h1.2
    have hb := m_sells hN hM w w2 hk hp
    by_cases h2 : k ≤ lSum (gL S)
    · rw [if_neg (by omega)] at hf
      have hc8 := cost_800 w.2.2.2.1 k (by omega)
      obtain ⟨b', e1, e2⟩ := c_sellC hN hR w w1 h1.1 h1.2
      refine co_ok (nx_sell h hu h1.1 h1.2 h2 (by omega)) t.2.2.2.1 ?_ e2 ((hb.2 h1).2 h2)
      unfold fX12_commandSell
      rw [hf, xcall_s]
      show xcall (fX3_sellCostumes N (iI k) (iI p) t.1) _ = _
      rw [e1, xcall_s]
    · rw [if_pos (by omega)] at hf
      exact co_no 4 2 (go 4 (by omega) (by omega) hf) ((hb.2 h1).1 (by omega)) (by omega) (by omega)
  · rw [if_pos h1] at hf
    refine co_no (v := iI 0) 3 1 (go 3 (by omega) (by omega) hf) ?_ (by omega) (by omega)
    unfold fX13_sells
    rw [show (1 : Int32) = iI 1 from rfl, show (20 : Int32) = iI 20 from rfl, show (40 : Int32) = iI 40 from rfl, m_in N hk (by omega) (by omega), xcall_s]
    by_cases h2 : 1 ≤ k ∧ k ≤ 20
    · rw [decide_eq_true h2]
      unfold xjoin
      dsimp only
      rw [if_neg (show ¬ iB true = 0 by decide), m_in N hp (by omega) (by omega), xcall_s, decide_eq_false (fun h3 => h1 ⟨h2, h3⟩)]
      rfl
    · rw [decide_eq_false h2]
      rfl
theorem co_bill (hN : 2000 ≤ N) (hR : RBo t.1 S) (hM : GG s.1 S) (h : WS a b S) (hu : a + b + 1 ≤ 512) {m : Int} (hm : -2147483648 ≤ m ∧ m < 2147483648) : COr (fX12_commandBill N (iI m) t) (fX13_writesBill N (iI m) s) t s a b := by
  have w := h.1
  have hl := w.2.2.2.2.1.1
  have hf := c_bNew N hR.2.2.2.2.1 w.2.2.2.2.1 hm
  obtain ⟨q1, q2, q3, q4, q5, q6⟩ := h.2.rng (by omega)
  have hb := m_writesBill hN hM w (by omega) hm
  have go : ∀ q, 0 < q → q < 6 → fX2_faultOfNew N (iI m) t.1.2.2.2.2.1 = some q → fX12_commandBill N (iI m) t = some (q, t) := fun q h0 h6 hq => by
    unfold fX12_commandBill
    rw [hq, xcall_s]
    unfold xjoin
    dsimp only
    rw [xnz_d h6, if_neg (by omega)]
  by_cases h1 : 1 ≤ m ∧ m ≤ 999
  · rw [if_neg (fun hh => hh h1)] at hf
    by_cases h2 : (gB S).1.length < 10
    · rw [if_neg (by omega)] at hf
      obtain ⟨b', e1, e2⟩ := c_writeBill N hR w h2 h1
      refine co_ok (nx_bill h hu h2 h1) t.2.2.2.1 ?_ e2 ((hb.2 h1).2 h2)
      unfold fX12_commandBill
      rw [hf, xcall_s]
      show xcall (fX3_writeBill N (iI m) t.1) _ = _
      rw [e1, xcall_s]
    · rw [if_pos (by omega)] at hf
      exact co_no 4 2 (go 4 (by omega) (by omega) hf) ((hb.2 h1).1 (by omega)) (by omega) (by omega)
  · rw [if_pos h1] at hf
    exact co_no 3 1 (go 3 (by omega) (by omega) hf) (hb.1 h1) (by omega) (by omega)
theorem co_pay (hN : 2000 ≤ N) (hR : RBo t.1 S) (hM : GG s.1 S) (h : WS a b S) (hu : a + b + 1 ≤ 512) {m : Int} (hm : -2147483648 ≤ m ∧ m < 2147483648) : COr (fX12_commandPay N (iI m) t) (fX13_pays N (iI m) s) t s a b := by
  have w := h.1
  have hf := c_bPay hN hR.2.2.2.2.1 w.2.2.2.2.1 hm
  have hb := m_pays hN hM w hm
  have go : ∀ q, 0 < q → q < 6 → fX2_faultOfPayment N (iI m) t.1.2.2.2.2.1 = some q → fX12_commandPay N (iI m) t = some (q, t) := fun q h0 h6 hq => by
    unfold fX12_commandPay
    rw [hq, xcall_s]
    unfold xjoin
    dsimp only
    rw [xnz_d h6, if_neg (by omega)]
  by_cases h1 : 1 ≤ m ∧ m ≤ 999
  · rw [if_neg (fun hh => hh h1)] at hf
    by_cases h2 : m ≤ bSum (gB S).1
    · rw [if_neg (by omega)] at hf
      obtain ⟨u, u1⟩ := c_chosenSet (t := t.2.2.2.1) hN hR.2.2.2.2.1 w.2.2.2.2.1 h1
      obtain ⟨b', e1, e2⟩ := c_takePayment hN hR w h1
      refine co_ok (nx_pay h hu h1) u ?_ e2 ((hb.2 h1).2 h2)
      unfold fX12_commandPay
      rw [hf, xcall_s]
      show xcall (fX7_chosenSet N (iI m) t.2.2.2.1 t.1.2.2.2.2.1) _ = _
      rw [u1, xcall_s]
      show xcall (fX3_takePayment N (iI m) (iI (chS S m : Int)) t.1) _ = _
      rw [e1, xcall_s]
    · rw [if_pos (by omega)] at hf
      exact co_no 4 2 (go 4 (by omega) (by omega) hf) ((hb.2 h1).1 (by omega)) (by omega) (by omega)
  · rw [if_pos h1] at hf
    exact co_no 3 1 (go 3 (by omega) (by omega) hf) (hb.1 h1) (by omega) (by omega)
theorem co_wait (hN : 2000 ≤ N) (hR : RBo t.1 S) (hM : GG s.1 S) (h : WS a b S) (hu : a + b + 1 ≤ 512) {z : Int} (hz : -2147483648 ≤ z ∧ z < 2147483648) : COr (fX12_commandWait N (iI z) t) (fX13_passes N (iI z) s) t s a b := by
  have w := h.1
  have hf := c_fHours N hz
  obtain ⟨q1, q2, q3, q4, q5, q6⟩ := h.2.rng (by omega)
  by_cases h1 : 1 ≤ z ∧ z ≤ 24
  · rw [if_pos h1] at hf
    obtain ⟨b', e1, e2⟩ := c_letPass hN hR w (k := z.toNat) (by omega) (by omega) (by omega)
    rw [Int.toNat_of_nonneg (by omega)] at e1
    have e3 := m_passes hN hM w (k := z.toNat) (by omega) (by omega) (by omega) (by omega)
    rw [Int.toNat_of_nonneg (by omega)] at e3
    refine co_ok (nx_pass h hu (k := z.toNat) (by omega)) t.2.2.2.1 ?_ e2 e3
    unfold fX12_commandWait
    rw [hf, xcall_s]
    show xcall (fX3_letPass N (iI z) t.1) _ = _
    rw [e1, xcall_s]
  · rw [if_neg h1] at hf
    refine co_no (v := iI 0) 3 1 ?_ ?_ (by omega) (by omega)
    · unfold fX12_commandWait
      rw [hf, xcall_s]
      rfl
    · unfold fX13_passes
      rw [show (1 : Int32) = iI 1 from rfl, show (24 : Int32) = iI 24 from rfl, m_in N hz (by omega) (by omega), xcall_s, decide_eq_false h1]
      rfl
theorem co_fall (hN : 2000 ≤ N) (hR : RBo t.1 S) (hM : GG s.1 S) (h : WS a b S) (hu : a + b + 1 ≤ 512) : COr (xcall (fX3_dropCurtain N t.1) fun q => some (0, Thls0 t q.2)) (fX13_falls N s) t s a b := by
  obtain ⟨f1, f2, f3⟩ := fall_ok h hu
  obtain ⟨b', e1, e2⟩ := c_dropCurtain hN hR h.1 f1 f2
  refine co_ok (nx_fall h hu) t.2.2.2.1 ?_ e2 (m_falls hN hM h.1 f1 f2)
  rw [e1, xcall_s]
theorem co_open (hN : 2000 ≤ N) (hR : RBo t.1 S) (hM : GG s.1 S) (h : WS a b S) {k p : Int} (hk : isKdB k = true) (hp : -1 ≤ p ∧ p < 65536) : COr (fX12_commandOpen N (iI k) (iI p) t) (fX13_opensBy N (iI k) (iI p) s) t s a b := by
  have w := h.1
  have hk1 := isKdB_t hk
  have hkc := hk1.2
  unfold isCh at hkc
  have hn := w.1.2.1
  have hmo := m_opens N hM w (k := k) (p := p)
  by_cases e : p = -1
  · subst e
    have hf := c_fNew N hR.1 w.fr.1 (k := k) (by omega)
    rw [if_neg (by rw [hk]; decide)] at hf
    have hopb : fX13_opensBy N (iI k) (iI (-1)) s = xcall (fX13_opens N (iI k) (iI (-1)) s) fun q => some (q.1, q.2) := by
      unfold fX13_opensBy
      unfold xjoin
      dsimp only
      rw [if_pos (show iI (-1) = (-1 : Int32) from rfl)]
      rfl
    rw [hopb]
    by_cases h2 : aN (gA S) < 12
    · rw [if_neg (by omega)] at hf
      obtain ⟨a', e1, e2⟩ := c_add N hR.1 w.wa h2 (k := k) (p := -1) hkc.1 hkc.2
      obtain ⟨g', g1, g2⟩ := hmo.2 h2
      refine co_ok (nx_open h h2 hk1.1 (by omega)) t.2.2.2.1 (b' := Boos0 t.1 a') ?_ ⟨e2, hR.2⟩ ⟨g', by rw [g1, xcall_s], g2⟩
      unfold fX12_commandOpen
      unfold xjoin
      dsimp only
      rw [if_pos (show iI (-1) = (-1 : Int32) from rfl), hf, xcall_s]
      show xcall (fX1_add N (iI k) (iI (-1)) t.1.1) _ = _
      rw [e1, xcall_s]
    · rw [if_pos (by omega)] at hf
      refine co_no 4 2 ?_ (by rw [hmo.1 (by omega), xcall_s]) (by omega) (by omega)
      unfold fX12_commandOpen
      unfold xjoin
      dsimp only
      rw [if_pos (show iI (-1) = (-1 : Int32) from rfl), hf, xcall_s]
      rfl
  · have hf := c_fNewBelow N hR.1 w.fr.1 (z := p) (by omega)
    have hne : ¬ iI p = (-1 : Int32) := by
      show ¬ iI p = iI (-1)
      rw [i_eq (by omega) (by omega) (by omega) (by omega)]; exact e
    have hia := m_isAccount N (s := s) hM.1 w.fr.1 (z := p) (by omega)
    by_cases h1 : 0 ≤ p ∧ p < aN (gA S)
    · rw [if_neg (fun hh => hh h1)] at hf
      rw [decide_eq_true h1] at hia
      have hkk := w.wa.rk (i := p.toNat) (by omega)
      have hg : s.1 (9 + p.toNat) = iI (aK (gA S) p.toNat) := (hM.1.2.1 p.toNat (by omega)).1
      have ix : (9 : Int32) + iI p = iI ((9 + p.toNat : Nat) : Int) := by rw [i_lit, i_add]; congr 1; omega
      have hopb : fX13_opensBy N (iI k) (iI p) s = if iI (aK (gA S) p.toNat) = iI k then (xcall (fX13_opens N (iI k) (iI p) s) fun q => some (q.1, q.2)) else (xcall (fX13_fails N 1 s) fun q => some (q.1, q.2)) := by
        unfold fX13_opensBy
        unfold xjoin
        dsimp only
        rw [if_neg hne, hia, xcall_s]
        rw [if_neg (show ¬ iB true = 0 by decide), ix, xrd_n (by omega) (by omega), hg]
        rfl
      rw [hopb]
      by_cases h2 : aN (gA S) < 12
      · rw [if_neg (by omega)] at hf
        have e3 := c_kindAt N hR.1 w.wa (i := p.toNat) (by omega)
        rw [Int.toNat_of_nonneg h1.1] at e3
        by_cases h3 : aK (gA S) p.toNat = k
        · obtain ⟨a', e1, e2⟩ := c_add N hR.1 w.wa h2 (k := k) (p := p) hkc.1 hkc.2
          obtain ⟨g', g1, g2⟩ := hmo.2 h2
          rw [if_pos (by rw [h3])]
          refine co_ok (nx_open h h2 hk1.1 (by omega)) t.2.2.2.1 (b' := Boos0 t.1 a') ?_ ⟨e2, hR.2⟩ ⟨g', by rw [g1, xcall_s], g2⟩
          unfold fX12_commandOpen
          unfold xjoin
          dsimp only
          rw [if_neg hne, hf, xcall_s]
          rw [xnz_d (by omega), if_pos rfl, if_neg hne, e3, xcall_s, if_pos (by rw [h3]), e1, xcall_s]
        · have h3' : ¬ iI (aK (gA S) p.toNat) = iI k := by rw [i_eq (by omega) (by omega) (by omega) (by omega)]; exact h3
          rw [if_neg h3']
          refine co_no (v := iI 0) 3 1 ?_ rfl (by omega) (by omega)
          unfold fX12_commandOpen
          unfold xjoin
          dsimp only
          rw [if_neg hne, hf, xcall_s]
          rw [xnz_d (by omega), if_pos rfl, if_neg hne, e3, xcall_s, if_neg h3']
      · rw [if_pos (by omega)] at hf
        have hcl : fX12_commandOpen N (iI k) (iI p) t = some (4, t) := by
          unfold fX12_commandOpen
          unfold xjoin
          dsimp only
          rw [if_neg hne, hf, xcall_s]
          rfl
        split
        · exact co_no 4 2 hcl (by rw [hmo.1 (by omega), xcall_s]) (by omega) (by omega)
        · exact co_no (v := iI 0) 4 1 hcl rfl (by omega) (by omega)
    · rw [if_pos h1] at hf
      rw [decide_eq_false h1] at hia
      refine co_no (v := iI 0) 1 1 ?_ ?_ (by omega) (by omega)
      · unfold fX12_commandOpen
        unfold xjoin
        dsimp only
        rw [if_neg hne, hf, xcall_s]
        rfl
      · unfold fX13_opensBy
        unfold xjoin
        dsimp only
        rw [if_neg hne, hia, xcall_s]
        rfl
end CO2
