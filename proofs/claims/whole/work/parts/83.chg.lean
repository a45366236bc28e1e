/-! ===== a call that changes the books, held against the reference ===== -/
theorem c_refuse (N : Nat) : ∀ q, q < 6 → fX12_refuse N q = some q
  | 0, _ => rfl
  | 1, _ => rfl
  | 2, _ => rfl
  | 3, _ => rfl
  | 4, _ => rfl
  | 5, _ => rfl
  | n + 6, h => absurd h (by omega)
def isCh (c : Int) : Prop := 0 ≤ c ∧ c < 65536
def WO (a b : Nat) (W : SO) : Prop := WS a b (oS W) ∧ (∀ S ∈ oH W, WS a b S) ∧ (∀ S, oV W = some S → WS a b S) ∧ (oH W).length ≤ 8 ∧ ((oT W).length ≤ 60 ∧ ∀ c ∈ oT W, isCh c) ∧ ((oO W).length ≤ 37 ∧ ∀ c ∈ oO W, isCh c) ∧ (-1 ≤ oE W ∧ oE W ≤ 60) ∧ (-1 ≤ oF W ∧ oF W ≤ 60)
theorem WS.more {a b a' b' : Nat} {S : SG} (h : WS a b S) (ha : a ≤ a') (hb : b ≤ b') : WS a' b' S := ⟨h.1, h.2.more ha hb⟩
/-- the state after a change: what was before goes to the history -/
def stO (W : SO) (S' : SG) : SO := (S', pushH (oH W) (oS W), W.2.2)
def NO (a b : Nat) (W' : SO) : Prop := ∃ a' b', a' + b' ≤ a + b + 1 ∧ WO a' b' W'
theorem pushH_mem {H : List SG} {S x : SG} (h : x ∈ pushH H S) : x ∈ H ∨ x = S := by
  unfold pushH at h
  split at h
  · rcases List.mem_append.mp h with h9 | h9
    · exact .inl (List.mem_of_mem_tail h9)
    · exact .inr (by simpa using h9)
  · rcases List.mem_append.mp h with h9 | h9
    · exact .inl h9
    · exact .inr (by simpa using h9)
theorem NO.st {a b : Nat} {W : SO} (h : WO a b W) {S' : SG} (n : NX a b S') : NO a b (stO W S') := by
  obtain ⟨h1, h2, h3, h4, h5, h6, h7, h8⟩ := h
  obtain ⟨a', b', n1, n2, n3, n4⟩ := n
  refine ⟨a', b', by omega, n4, fun S hS => ?_, fun S hS => (h3 S hS).more n2 n3, (pushH_len h4).1, h5, h6, h7, h8⟩
  rcases pushH_mem hS with h9 | h9
  · exact (h2 S h9).more n2 n3
  · rw [h9]; exact h1.more n2 n3
theorem whyE_0 {n : Nat} {d c m : Int} (h : whyE n d c m = 0) : (0 ≤ d ∧ d < n) ∧ (0 ≤ c ∧ c < n) ∧ d ≠ c ∧ 1 ≤ m ∧ m ≤ 999 := by
  unfold whyE at h
  split at h
  · omega
  · split at h <;> omega
def lawC (cs : List Nat) (q : Nat) : Nat := if q = 0 then 0 else cs.idxOf q + 1
/-- class and reference answer alike -/
def SC (cs : List Nat) (W : SO) (a b : Nat) (c : Option (Nat × Int32 × ThlS × (Nat → BooS))) (m : Option (Int32 × MS)) : Prop := ∃ q v v' t r s W', c = some (q, v, t, r) ∧ m = some (v', s) ∧ s.2.2.2.2.2.2.2.2.2.2.2.2.1 = iI (lawC cs q : Int) ∧ (q = 0 ∨ q ∈ cs) ∧ (q = 0 → v = v') ∧ RT t r W' ∧ RM s W' ∧ NO a b W' ∧ W'.2.2 = W.2.2
def cgM (N : Nat) (B : MS → Option (Int32 × MS)) (s : MS) : Option (Int32 × MS) := xcall (fX13_begin N s) fun q1 => xcall (B q1) fun q2 => xcall (fX13_kept N q2.1 q2.2) fun q3 => some (q3.1, q3.2)
section SCs
variable {N : Nat} {t : ThlS} {r : Nat → BooS} {s : MS} {W : SO} {a b : Nat} {cs : List Nat}
theorem c_record (N : Nat) (hR : RT t r W) (w : WG (oS W)) : ∃ t' r', fX12_record N t r = some (t', r') ∧ RT t' r' (stO W (oS W)) := by
  obtain ⟨h1, h2, h3, h4⟩ := hR
  obtain ⟨r', k, k1, k2, k3, k4, k5, k6⟩ := c_setAside N h1 w h3
  obtain ⟨his, e1, e2⟩ := c_keepAside N k3 (S := oS W) (fun f hf hlt => by rw [← k6 f hf hlt]; exact k4)
  refine ⟨Thls2 t his, r', ?_, h1, h2, e2, h4⟩
  · unfold fX12_record
    rw [k2, xcall_s, e1, xcall_s]
theorem GG.bg {s : MS} {W : SO} (hM : RM s W) (w : WG (oS W)) : GG (cpN s.1 s.2.1 0 0) (oS W) := hM.1.eq w fun k hk => by
  unfold cpN
  rw [if_pos (by omega)]
  show s.1 (0 + (k - 0)) = s.1 k
  rw [show 0 + (k - 0) = k by omega]
theorem sc_no (hN : 2000 ≤ N) (hR : RT t r W) (hM : RM s W) (hw : WO a b W) {B : MS → Option (Int32 × MS)} {c : Option (Nat × Int32 × ThlS × (Nat → BooS))} {m : Option (Int32 × MS)} (q : Nat) (k : Int) (hq : q ∈ cs) (hq0 : q ≠ 0) (hk : k = lawC cs q) (hk9 : k ≤ 9) (hc : c = some (q, 0, t, r)) (hm : m = cgM N B s) (hB : ∀ s1 : MS, GG s1.1 (oS W) → B s1 = some (iI 0, Ms12 s1 (iI k))) : SC cs W a b c m := by
  have hwg := hw.1.1
  have hg := GG.bg hM hwg
  have e := hB (Ms1 s (cpN s.1 s.2.1 0 0)) hM.1
  have hk1 : 1 ≤ k := by rw [hk]; unfold lawC; rw [if_neg hq0]; omega
  refine ⟨q, 0, iI 0, t, r, Ms0 (Ms12 (Ms1 s (cpN s.1 s.2.1 0 0)) (iI k)) (cpN (cpN s.1 s.2.1 0 0) s.1 0 0), W, hc, ?_, ?_, .inr hq, fun h => absurd h hq0, hR, ?_, ⟨a, b, by omega, hw⟩, rfl⟩
  · rw [hm]
    unfold cgM
    rw [m_begin hN, xcall_s, e, xcall_s, m_kept_no hN (s := Ms12 (Ms1 s (cpN s.1 s.2.1 0 0)) (iI k)) (k := k) ⟨hk1, hk9⟩ rfl, xcall_s]
  · show iI k = _
    rw [hk]
  · refine ⟨?_, hM.2⟩
    refine hg.eq hwg fun k hk => ?_
    show cpN (cpN s.1 s.2.1 0 0) s.1 0 0 k = _
    have e : 0 + (k - 0) = k := by omega
    unfold cpN
    rw [if_pos (by omega)]
    simp only [e]
theorem sc_ok (hN : 2000 ≤ N) (hR : RT t r W) (hM : RM s W) (hw : WO a b W) {B : MS → Option (Int32 × MS)} {F : ThlS × (Nat → BooS) → Option (Nat × Int32 × ThlS × (Nat → BooS))} {c : Option (Nat × Int32 × ThlS × (Nat → BooS))} {m : Option (Int32 × MS)} (S' : SG) (v : Int32) (hn : NX a b S') (hc : c = xcall (fX12_record N t r) F) (hF : ∀ t' r' W1, RT t' r' W1 → oS W1 = oS W → ∃ t2, F (t', r') = some (0, v, t2, r') ∧ RT t2 r' (S', W1.2)) (hm : m = cgM N B s) (hB : ∀ s1 : MS, GG s1.1 (oS W) → ∃ g', B s1 = some (v, Ms12 (Ms0 s1 g') (iI 0)) ∧ GG g' S') : SC cs W a b c m := by
  have hwg := hw.1.1
  have hg := GG.bg hM hwg
  obtain ⟨t', r', e1, e2⟩ := c_record N hR hwg
  obtain ⟨t2, f1, f2⟩ := hF t' r' _ e2 rfl
  obtain ⟨g', b1, b2⟩ := hB (Ms1 s (cpN s.1 s.2.1 0 0)) hM.1
  obtain ⟨m1, m2, m3, m4⟩ := hM
  obtain ⟨h', k1, k2⟩ := m_kept_ok hN (s := Ms12 (Ms0 (Ms1 s (cpN s.1 s.2.1 0 0)) g') (iI 0)) m3 (fun S hS => (hw.2.1 S hS).1) hwg hw.2.2.2.1 m2 hg rfl v
  refine ⟨0, v, v, t2, r', Ms3 (Ms2 (Ms12 (Ms0 (Ms1 s (cpN s.1 s.2.1 0 0)) g') (iI 0)) h') (iI ((pushH (oH W) (oS W)).length : Int)), stO W S', by rw [hc, e1, xcall_s, f1], ?_, ?_, .inl rfl, fun _ => rfl, f2, ?_, NO.st hw hn, rfl⟩
  · rw [hm]
    unfold cgM
    rw [m_begin hN, xcall_s, b1, xcall_s, k1, xcall_s]
  · rfl
  · exact ⟨b2, rfl, k2, m4⟩
/-! the calls -/
theorem s_post (hN : 2000 ≤ N) (hR : RT t r W) (hM : RM s W) (hw : WO a b W) (hu : a + b + 1 ≤ 512) {d c m : Int} (hd : -2147483648 ≤ d ∧ d < 2147483648) (hc : -2147483648 ≤ c ∧ c < 2147483648) (hm : -2147483648 ≤ m ∧ m < 2147483648) : SC [1, 3] W a b (fX12_post N (iI d) (iI c) (iI m) t r) (fX13_post N (iI d) (iI c) (iI m) s) := by
  have w := hw.1.1
  have hf := c_fEntry N hR.1.1 w.fr.1 hd hc hm
  have hle := whyE_le (aN (gA (oS W))) d c m
  by_cases h1 : whyE (aN (gA (oS W))) d c m = 0
  · obtain ⟨hd2, hc2, hne, hm2⟩ := whyE_0 h1
    rw [if_neg (by omega), if_neg (by omega)] at hf
    refine sc_ok hN hR hM hw (sEnt (oS W) d.toNat c.toNat m 0) (iI (jN (gJ (oS W)) : Int)) (nx_post hw.1 hu (by omega) (by omega) hm2) (F := fun q3 => xcall (fX3_makeEntry N (iI d) (iI c) ((iI m).toInt64) q3.1.1) fun q4 => some (0, q4.1, (Thls0 q3.1 q4.2), q3.2)) (B := fX13_posts N (iI d) (iI c) (iI m)) ?_ (fun t' r' W1 h hW => ?_) rfl (fun s1 g1 => (m_posts hN g1 w hd hc hm).2 h1)
    · unfold fX12_post
      rw [hf, xcall_s, c_refuse N 0 (by omega), xcall_s]
      rfl
    · have h9 := h.1
      rw [hW] at h9
      obtain ⟨b', e1, e2⟩ := c_ent N h9 w (d := d.toNat) (c := c.toNat) (by omega) (by omega) m
      rw [Int.toNat_of_nonneg hd2.1, Int.toNat_of_nonneg hc2.1] at e1
      refine ⟨Thls0 t' b', ?_, e2, h.2⟩
      show xcall (fX3_makeEntry N (iI d) (iI c) ((iI m).toInt64) t'.1) _ = _
      rw [i_toL hm.1 hm.2, e1, xcall_s]
  · by_cases h2 : whyE (aN (gA (oS W))) d c m = 1
    · rw [if_pos h2] at hf
      refine sc_no hN hR hM hw 1 1 (by decide) (by decide) (by decide) (by decide) ?_ (B := fX13_posts N (iI d) (iI c) (iI m)) rfl (fun s1 g1 => ?_)
      · unfold fX12_post
        rw [hf, xcall_s, c_refuse N 1 (by omega), xcall_s]
        rfl
      · rw [(m_posts hN g1 w hd hc hm).1 h1, h2]; rfl
    · have h3 : whyE (aN (gA (oS W))) d c m = 2 := by omega
      rw [if_neg h2, if_pos h3] at hf
      refine sc_no hN hR hM hw 3 2 (by decide) (by decide) (by decide) (by decide) ?_ (B := fX13_posts N (iI d) (iI c) (iI m)) rfl (fun s1 g1 => ?_)
      · unfold fX12_post
        rw [hf, xcall_s, c_refuse N 3 (by omega), xcall_s]
        rfl
      · rw [(m_posts hN g1 w hd hc hm).1 h1, h3]; rfl
theorem s_reverse (hN : 2000 ≤ N) (hR : RT t r W) (hM : RM s W) (hw : WO a b W) (hu : a + b + 1 ≤ 512) {z : Int} (hz : -2147483648 ≤ z ∧ z < 2147483648) : SC [2, 4] W a b (fX12_reverse N (iI z) t r) (fX13_reverse N (iI z) s) := by
  have w := hw.1.1
  have hf := c_fRev N hR.1.2.1 w.2.1 hz
  have hg := (hw.1.2.rng (by omega)).2.2.1
  have hk := jK_le (gJ (oS W))
  have hk2 : jK (gJ (oS W)) ≤ jN (gJ (oS W)) := by unfold jK; omega
  by_cases h1 : (jN (gJ (oS W)) : Int) - jK (gJ (oS W)) ≤ z ∧ z < jN (gJ (oS W))
  · rw [if_neg (fun hh => hh h1)] at hf
    by_cases h2 : jM (gJ (oS W)) z.toNat = 0
    · rw [if_pos h2] at hf
      refine sc_ok hN hR hM hw (sRev (oS W) z.toNat) (iI (jN (gJ (oS W)) : Int)) (nx_rev hw.1 hu (by omega) (by omega) h2) (F := fun q3 => xcall (fX3_makeReversal N (iI z) q3.1.1) fun q4 => some (0, q4.1, (Thls0 q3.1 q4.2), q3.2)) (B := fX13_reverses N (iI z)) ?_ (fun t' r' W1 h hW => ?_) rfl (fun s1 g1 => ((m_reverses hN g1 w hz).2 h1).2 h2)
      · unfold fX12_reverse
        rw [hf, xcall_s, c_refuse N 0 (by omega), xcall_s]
        rfl
      · have h9 := h.1
        rw [hW] at h9
        obtain ⟨b', e1, e2⟩ := c_rev N h9 w (by omega) (e := z.toNat) (by omega) (by omega)
        rw [Int.toNat_of_nonneg (by omega)] at e1
        refine ⟨Thls0 t' b', ?_, e2, h.2⟩
        show xcall (fX3_makeReversal N (iI z) t'.1) _ = _
        rw [e1, xcall_s]
    · rw [if_neg h2] at hf
      refine sc_no hN hR hM hw 4 2 (by decide) (by decide) (by decide) (by decide) ?_ (B := fX13_reverses N (iI z)) rfl (fun s1 g1 => ((m_reverses hN g1 w hz).2 h1).1 h2)
      unfold fX12_reverse
      rw [hf, xcall_s, c_refuse N 4 (by omega), xcall_s]
      rfl
  · rw [if_pos h1] at hf
    refine sc_no hN hR hM hw 2 1 (by decide) (by decide) (by decide) (by decide) ?_ (B := fX13_reverses N (iI z)) rfl (fun s1 g1 => (m_reverses hN g1 w hz).1 h1)
    unfold fX12_reverse
    rw [hf, xcall_s, c_refuse N 2 (by omega), xcall_s]
    rfl
theorem s_prompt (hN : 2000 ≤ N) (hR : RT t r W) (hM : RM s W) (hw : WO a b W) (hu : a + b + 1 ≤ 512) {d c m e f : Int} (hd : -2147483648 ≤ d ∧ d < 2147483648) (hc : -2147483648 ≤ c ∧ c < 2147483648) (hm : -2147483648 ≤ m ∧ m < 2147483648) (he : -2147483648 ≤ e ∧ e < 2147483648) (hf9 : -2147483648 ≤ f ∧ f < 2147483648) : SC [1, 3, 4] W a b (fX12_prompt N (iI d) (iI c) (iI m) (iI e) (iI f) t r) (fX13_prompt N (iI d) (iI c) (iI m) (iI e) (iI f) s) := by
  have w := hw.1.1
  have hf := c_fEntry N hR.1.1 w.fr.1 hd hc hm
  have hp := c_pNew N hR.1.2.2.1 w.fr.2.1 he hf9
  have hle := whyE_le (aN (gA (oS W))) d c m
  by_cases h1 : whyE (aN (gA (oS W))) d c m = 0
  · obtain ⟨hd2, hc2, hne, hm2⟩ := whyE_0 h1
    rw [if_neg (by omega), if_neg (by omega)] at hf
    by_cases h2 : (1 ≤ e ∧ e ≤ 12) ∧ (1 ≤ f ∧ f ≤ 9)
    · rw [if_neg (fun hh => hh h2)] at hp
      by_cases h3 : (gP (oS W)).length < 6
      · rw [if_neg (by omega)] at hp
        refine sc_ok hN hR hM hw (wP (oS W) (gP (oS W) ++ [(d, c, m, e, f, e)])) (iI ((gP (oS W)).length : Int)) (nx_prompt hw.1 hu h3 ⟨by unfold WPe; simp only; omega, by simp only; omega⟩) (F := fun q5 => xcall (fX8_add N (iI d) (iI c) (iI m) (iI e) (iI f) q5.1.1.2.2.1) fun q6 => some (0, q6.1, (Thls0 q5.1 ((Boos2 q5.1.1 q6.2))), q5.2)) (B := fX13_prompts N (iI d) (iI c) (iI m) (iI e) (iI f)) ?_ (fun t' r' W1 h hW => ?_) rfl (fun s1 g1 => (((m_prompts g1 w hd hc hm he hf9).2 h1).2 h2).2 h3)
        · unfold fX12_prompt
          rw [hf, xcall_s, c_refuse N 0 (by omega), xcall_s]
          show xcall _ _ = _
          rw [hp, xcall_s, c_refuse N 0 (by omega), xcall_s]
          rfl
        · have h9 := h.1
          rw [hW] at h9
          obtain ⟨p', e1, e2⟩ := c_pAdd N h9.2.2.1 h3 d c m e f
          refine ⟨Thls0 t' (Boos2 t'.1 p'), ?_, ⟨h9.1, h9.2.1, e2, h9.2.2.2⟩, h.2⟩
          show xcall (fX8_add N (iI d) (iI c) (iI m) (iI e) (iI f) t'.1.2.2.1) _ = _
          rw [e1, xcall_s]
      · rw [if_pos (by omega)] at hp
        refine sc_no hN hR hM hw 4 3 (by decide) (by decide) (by decide) (by decide) ?_ (B := fX13_prompts N (iI d) (iI c) (iI m) (iI e) (iI f)) rfl (fun s1 g1 => (((m_prompts g1 w hd hc hm he hf9).2 h1).2 h2).1 (by omega))
        unfold fX12_prompt
        rw [hf, xcall_s, c_refuse N 0 (by omega), xcall_s]
        show xcall _ _ = _
        rw [hp, xcall_s, c_refuse N 4 (by omega), xcall_s]
        rfl
    · rw [if_pos h2] at hp
      refine sc_no hN hR hM hw 3 2 (by decide) (by decide) (by decide) (by decide) ?_ (B := fX13_prompts N (iI d) (iI c) (iI m) (iI e) (iI f)) rfl (fun s1 g1 => ((m_prompts g1 w hd hc hm he hf9).2 h1).1 h2)
      unfold fX12_prompt
      rw [hf, xcall_s, c_refuse N 0 (by omega), xcall_s]
      show xcall _ _ = _
      rw [hp, xcall_s, c_refuse N 3 (by omega), xcall_s]
      rfl
  · by_cases h2 : whyE (aN (gA (oS W))) d c m = 1
    · rw [if_pos h2] at hf
      refine sc_no hN hR hM hw 1 1 (by decide) (by decide) (by decide) (by decide) ?_ (B := fX13_prompts N (iI d) (iI c) (iI m) (iI e) (iI f)) rfl (fun s1 g1 => ?_)
      · unfold fX12_prompt
        rw [hf, xcall_s, c_refuse N 1 (by omega), xcall_s]
        rfl
      · rw [(m_prompts g1 w hd hc hm he hf9).1 h1, h2]; rfl
    · have h3 : whyE (aN (gA (oS W))) d c m = 2 := by omega
      rw [if_neg h2, if_pos h3] at hf
      refine sc_no hN hR hM hw 3 2 (by decide) (by decide) (by decide) (by decide) ?_ (B := fX13_prompts N (iI d) (iI c) (iI m) (iI e) (iI f)) rfl (fun s1 g1 => ?_)
      · unfold fX12_prompt
        rw [hf, xcall_s, c_refuse N 3 (by omega), xcall_s]
        rfl
      · rw [(m_prompts g1 w hd hc hm he hf9).1 h1, h3]; rfl
theorem s_cancel (hN : 2000 ≤ N) (hR : RT t r W) (hM : RM s W) (hw : WO a b W) (hu : a + b + 1 ≤ 512) {z : Int} (hz : -2147483648 ≤ z ∧ z < 2147483648) : SC [1] W a b (fX12_cancelPrompt N (iI z) t r) (fX13_cancelPrompt N (iI z) s) := by
  have w := hw.1.1
  have hf := c_phas N hR.1.2.2.1 w.fr.2.1 hz
  by_cases h1 : 0 ≤ z ∧ z < (gP (oS W)).length
  · obtain ⟨x, hx⟩ : ∃ x, (gP (oS W))[z.toNat]? = some x := ⟨_, List.getElem?_eq_getElem (by omega)⟩
    rw [decide_eq_true h1] at hf
    refine sc_ok hN hR hM hw (wP (oS W) ((gP (oS W)).eraseIdx z.toNat)) (iI x.2.2.2.2.1) (nx_cancel hw.1 hu _) (F := fun q2 => xcall (fX8_end N (iI z) q2.1.1.2.2.1) fun q3 => some (0, q3.1, (Thls0 q2.1 ((Boos2 q2.1.1 q3.2))), q2.2)) (B := fX13_cancels N (iI z)) ?_ (fun t' r' W1 h hW => ?_) rfl (fun s1 g1 => (m_cancels hN g1 w hz).2 z.toNat x (by omega) hx)
    · unfold fX12_cancelPrompt fX12_checkPrompt
      rw [hf, xcall_s]
      rfl
    · have h9 := h.1
      rw [hW] at h9
      obtain ⟨p', e1, e2⟩ := c_pEnd hN h9.2.2.1 w.2.2.1 hx
      rw [Int.toNat_of_nonneg h1.1] at e1
      refine ⟨Thls0 t' (Boos2 t'.1 p'), ?_, ⟨h9.1, h9.2.1, e2, h9.2.2.2⟩, h.2⟩
      show xcall (fX8_end N (iI z) t'.1.2.2.1) _ = _
      rw [e1, xcall_s]
  · rw [decide_eq_false h1] at hf
    refine sc_no hN hR hM hw 1 1 (by decide) (by decide) (by decide) (by decide) ?_ (B := fX13_cancels N (iI z)) rfl (fun s1 g1 => (m_cancels hN g1 w hz).1 h1)
    unfold fX12_cancelPrompt fX12_checkPrompt
    rw [hf, xcall_s]
    rfl
theorem c_fHours (N : Nat) {k : Int} (hk : -2147483648 ≤ k ∧ k < 2147483648) : fX12_faultOfHours N (iI k) = some (if 1 ≤ k ∧ k ≤ 24 then 0 else 3) := by
  unfold fX12_faultOfHours
  rw [show (1 : Int32) = iI 1 from rfl, show (24 : Int32) = iI 24 from rfl, c_within N hk (by omega) (by omega), xcall_s]
  by_cases h : 1 ≤ k ∧ k ≤ 24
  · rw [decide_eq_true h, if_pos h]; rfl
  · rw [decide_eq_false h, if_neg h]; rfl
theorem s_pass (hN : 2000 ≤ N) (hR : RT t r W) (hM : RM s W) (hw : WO a b W) (hu : a + b + 1 ≤ 512) {z : Int} (hz : -2147483648 ≤ z ∧ z < 2147483648) : SC [3] W a b (fX12_passHours N (iI z) t r) (fX13_passHours N (iI z) s) := by
  have w := hw.1.1
  have hf := c_fHours N hz
  obtain ⟨q1, q2, q3, q4, q5, q6⟩ := hw.1.2.rng (by omega)
  by_cases h1 : 1 ≤ z ∧ z ≤ 24
  · rw [if_pos h1] at hf
    refine sc_ok hN hR hM hw (sHours z.toNat (oS W)) (iI (sHoursC z.toNat (oS W) : Int)) (nx_pass hw.1 hu (by omega)) (F := fun q3 => xcall (fX3_letPass N (iI z) q3.1.1) fun q4 => some (0, q4.1, (Thls0 q3.1 q4.2), q3.2)) (B := fX13_passes N (iI z)) ?_ (fun t' r' W1 h hW => ?_) rfl (fun s1 g1 => ?_)
    · unfold fX12_passHours
      rw [hf, xcall_s, c_refuse N 0 (by omega), xcall_s]
      rfl
    · have h9 := h.1
      rw [hW] at h9
      obtain ⟨b', e1, e2⟩ := c_letPass hN h9 w (k := z.toNat) (by omega) (by omega) (by omega)
      rw [Int.toNat_of_nonneg (by omega)] at e1
      refine ⟨Thls0 t' b', ?_, e2, h.2⟩
      show xcall (fX3_letPass N (iI z) t'.1) _ = _
      rw [e1, xcall_s]
    · obtain ⟨g', e1, e2⟩ := m_passes hN g1 w (k := z.toNat) (by omega) (by omega) (by omega) (by omega)
      rw [Int.toNat_of_nonneg (by omega)] at e1
      exact ⟨g', e1, e2⟩
  · rw [if_neg h1] at hf
    refine sc_no hN hR hM hw 3 1 (by decide) (by decide) (by decide) (by decide) ?_ (B := fX13_passes N (iI z)) rfl (fun s1 _ => by
      unfold fX13_passes
      rw [show (1 : Int32) = iI 1 from rfl, show (24 : Int32) = iI 24 from rfl, m_in N hz (by omega) (by omega), xcall_s, decide_eq_false h1]
      rfl)
    unfold fX12_passHours
    rw [hf, xcall_s, c_refuse N 3 (by omega), xcall_s]
    rfl
theorem c_fBuy (N : Nat) {bk : BooS} {S : SG} (h : RBo bk S) (w : WG S) {k p : Int} (hk : -2147483648 ≤ k ∧ k < 2147483648) (hp : -2147483648 ≤ p ∧ p < 2147483648) : fX3_faultOfBuying N (iI k) (iI p) bk = some (if ¬ ((1 ≤ k ∧ k ≤ 20) ∧ (1 ≤ p ∧ p ≤ 40)) then 3 else if 8 ≤ (gL S).length then 4 else if bal (gA S) 0 < k * p then 5 else 0) := by
  have hn := w.1.1
  have hb := bal_rng w.wa (i := 0) (by omega)
  have hl := w.2.2.2.1.1
  have hL : bk.2.2.2.1.2.2 = iI ((gL S).length : Int) := h.2.2.2.1.1
  unfold fX3_faultOfBuying
  rw [c_isTrade N hk hp, xcall_s]
  by_cases h1 : (1 ≤ k ∧ k ≤ 20) ∧ (1 ≤ p ∧ p ≤ 40)
  · rw [decide_eq_true h1, if_neg (show ¬ iB true = 0 by decide), if_neg (show ¬ ¬ ((1 ≤ k ∧ k ≤ 20) ∧ (1 ≤ p ∧ p ≤ 40)) from fun hh => hh h1), hL]
    by_cases h2 : 8 ≤ (gL S).length
    · rw [if_pos h2, if_neg (by rw [i_lit, i_lt (by omega) (by omega) (by omega) (by omega)]; omega)]
    · have m0 : 0 ≤ k * p := Int.mul_nonneg (by omega) (by omega)
      have m1 : k * p ≤ 20 * 40 := Int.mul_le_mul (by omega) (by omega) (by omega) (by omega)
      rw [if_neg h2, if_pos (by rw [i_lit, i_lt (by omega) (by omega) (by omega) (by omega)]; omega), show (0 : Int32) = iI ((0 : Nat) : Int) from rfl, c_bal N h.1 w.wa (by omega), xcall_s, i_mul, i_toL (by omega) (by omega)]
      unfold xjoin
      dsimp only
      by_cases h3 : bal (gA S) 0 < k * p
      · rw [if_pos h3, if_neg]
        show ¬ iI 0 ≤ lg_cmp (iL _) (iL _)
        simp (disch := omega) only [i_le, i_lt, i_eq, l_cmp0, l_cmplt, l_cmpgt, l_cmple, l_cmpge, b_zero, b_one, decide_eq_false_iff_not, decide_eq_true_eq]
        omega
      · rw [if_neg h3, if_pos]
        show iI 0 ≤ lg_cmp (iL _) (iL _)
        simp (disch := omega) only [i_le, i_lt, i_eq, l_cmp0, l_cmplt, l_cmpgt, l_cmple, l_cmpge, b_zero, b_one, decide_eq_false_iff_not, decide_eq_true_eq]
        omega
  · rw [decide_eq_false h1, if_pos h1]; rfl
theorem s_buy (hN : 2000 ≤ N) (hR : RT t r W) (hM : RM s W) (hw : WO a b W) (hu : a + b + 1 ≤ 512) {k p : Int} (hk : -2147483648 ≤ k ∧ k < 2147483648) (hp : -2147483648 ≤ p ∧ p < 2147483648) : SC [3, 4, 5] W a b (fX12_buy N (iI k) (iI p) t r) (fX13_buy N (iI k) (iI p) s) := by
  have w := hw.1.1
  have hf := c_fBuy N hR.1 w hk hp
  have hl := w.2.2.2.1.1
  have go : ∀ q, q < 6 → fX3_faultOfBuying N (iI k) (iI p) t.1 = some q → q ≠ 0 → fX12_buy N (iI k) (iI p) t r = some (q, 0, t, r) := fun q h6 hq h0 => by
    unfold fX12_buy
    rw [hq, xcall_s, c_refuse N q h6, xcall_s]
    unfold xthr
    rw [if_neg h0]
  by_cases h1 : (1 ≤ k ∧ k ≤ 20) ∧ (1 ≤ p ∧ p ≤ 40)
  · rw [if_neg (fun hh => hh h1)] at hf
    by_cases h2 : (gL (oS W)).length < 8
    · rw [if_neg (by omega)] at hf
      by_cases h3 : k * p ≤ bal (gA (oS W)) 0
      · rw [if_neg (by omega)] at hf
        refine sc_ok hN hR hM hw (sBuy (oS W) k p) (iI (k * p)) (nx_buy hw.1 hu h2 h1.1 h1.2) (F := fun q3 => xcall (fX3_buyLot N (iI k) (iI p) q3.1.1) fun q4 => some (0, q4.1, (Thls0 q3.1 q4.2), q3.2)) (B := fX13_buys N (iI k) (iI p)) ?_ (fun t' r' W1 h hW => ?_) rfl (fun s1 g1 => (((m_buys hN g1 w hk hp).2 h1).2 h2).2 h3)
        · unfold fX12_buy
          rw [hf, xcall_s, c_refuse N 0 (by omega), xcall_s]
          rfl
        · have h9 := h.1
          rw [hW] at h9
          obtain ⟨b', e1, e2⟩ := c_buyLot N h9 w h2 h1.1 h1.2
          refine ⟨Thls0 t' b', ?_, e2, h.2⟩
          show xcall (fX3_buyLot N (iI k) (iI p) t'.1) _ = _
          rw [e1, xcall_s]
      · rw [if_pos (by omega)] at hf
        exact sc_no hN hR hM hw 5 3 (by decide) (by decide) (by decide) (by decide) (go 5 (by omega) hf (by omega)) (B := fX13_buys N (iI k) (iI p)) rfl (fun s1 g1 => (((m_buys hN g1 w hk hp).2 h1).2 h2).1 (by omega))
    · rw [if_pos (by omega)] at hf
      exact sc_no hN hR hM hw 4 2 (by decide) (by decide) (by decide) (by decide) (go 4 (by omega) hf (by omega)) (B := fX13_buys N (iI k) (iI p)) rfl (fun s1 g1 => ((m_buys hN g1 w hk hp).2 h1).1 (by omega))
  · rw [if_pos h1] at hf
    exact sc_no hN hR hM hw 3 1 (by decide) (by decide) (by decide) (by decide) (go 3 (by omega) hf (by omega)) (B := fX13_buys N (iI k) (iI p)) rfl (fun s1 g1 => (m_buys hN g1 w hk hp).1 h1)
theorem s_sell (hN : 2000 ≤ N) (hR : RT t r W) (hM : RM s W) (hw : WO a b W) (hu : a + b + 1 ≤ 512) {k p : Int} (hk : -2147483648 ≤ k ∧ k < 2147483648) (hp : -2147483648 ≤ p ∧ p < 2147483648) : SC [3, 4] W a b (fX12_sell N (iI k) (iI p) t r) (fX13_sell N (iI k) (iI p) s) := by
  have w := hw.1.1
  have hf := c_fSell hN hR.1.2.2.2.1 w.2.2.2.1 hk hp
  have go : ∀ q, q < 6 → fX11_faultOfSelling N (iI k) (iI p) t.1.2.2.2.1 = some q → q ≠ 0 → fX12_sell N (iI k) (iI p) t r = some (q, 0, t, r) := fun q h6 hq h0 => by
    unfold fX12_sell
    rw [hq, xcall_s, c_refuse N q h6, xcall_s]
    unfold xthr
    rw [if_neg h0]
  by_cases h1 : (1 ≤ k ∧ k ≤ 20) ∧ (1 ≤ p ∧ p ≤ 40)
  · rw [if_neg (fun hh => hh h1)] at hf
    obtain ⟨w1, w2⟩ := sell_W1 hw.1 hu h1.1 h1.2
    by_cases h2 : k ≤ lSum (gL (oS W))
    · rw [if_neg (by omega)] at hf
      have hc8 := cost_800 w.2.2.2.1 k (by omega)
      refine sc_ok hN hR hM hw (sSell (oS W) k p) (iI (sCost k (gL (oS W)))) (nx_sell hw.1 hu h1.1 h1.2 h2 (by omega)) (F := fun q3 => xcall (fX3_sellCostumes N (iI k) (iI p) q3.1.1) fun q4 => some (0, q4.1, (Thls0 q3.1 q4.2), q3.2)) (B := fX13_sells N (iI k) (iI p)) ?_ (fun t' r' W1 h hW => ?_) rfl (fun s1 g1 => ((m_sells hN g1 w w2 hk hp).2 h1).2 h2)
      · unfold fX12_sell
        rw [hf, xcall_s, c_refuse N 0 (by omega), xcall_s]
        rfl
      · have h9 := h.1
        rw [hW] at h9
        obtain ⟨b', e1, e2⟩ := c_sellC hN h9 w w1 h1.1 h1.2
        refine ⟨Thls0 t' b', ?_, e2, h.2⟩
        show xcall (fX3_sellCostumes N (iI k) (iI p) t'.1) _ = _
        rw [e1, xcall_s]
    · rw [if_pos (by omega)] at hf
      exact sc_no hN hR hM hw 4 2 (by decide) (by decide) (by decide) (by decide) (go 4 (by omega) hf (by omega)) (B := fX13_sells N (iI k) (iI p)) rfl (fun s1 g1 => ((m_sells hN g1 w w2 hk hp).2 h1).1 (by omega))
  · rw [if_pos h1] at hf
    refine sc_no hN hR hM hw 3 1 (by decide) (by decide) (by decide) (by decide) (go 3 (by omega) hf (by omega)) (B := fX13_sells N (iI k) (iI p)) rfl (fun s1 g1 => ?_)
    unfold fX13_sells
    rw [show (1 : Int32) = iI 1 from rfl, show (20 : Int32) = iI 20 from rfl, show (40 : Int32) = iI 40 from rfl, m_in N hk (by omega) (by omega), xcall_s]
    by_cases h2 : 1 ≤ k ∧ k ≤ 20
    · rw [decide_eq_true h2]
      unfold xjoin
      dsimp only
      rw [if_neg (show ¬ iB true = 0 by decide), m_in N hp (by omega) (by omega), xcall_s, decide_eq_false (fun h3 => h1 ⟨h2, h3⟩)]
      rfl
    · rw [decide_eq_false h2]
      rfl
theorem s_bill (hN : 2000 ≤ N) (hR : RT t r W) (hM : RM s W) (hw : WO a b W) (hu : a + b + 1 ≤ 512) {m : Int} (hm : -2147483648 ≤ m ∧ m < 2147483648) : SC [3, 4] W a b (fX12_bill N (iI m) t r) (fX13_bill N (iI m) s) := by
  have w := hw.1.1
  have hl := w.2.2.2.2.1.1
  have hf := c_bNew N hR.1.2.2.2.2.1 w.2.2.2.2.1 hm
  obtain ⟨q1, q2, q3, q4, q5, q6⟩ := hw.1.2.rng (by omega)
  have go : ∀ q, q < 6 → fX2_faultOfNew N (iI m) t.1.2.2.2.2.1 = some q → q ≠ 0 → fX12_bill N (iI m) t r = some (q, 0, t, r) := fun q h6 hq h0 => by
    unfold fX12_bill
    rw [hq, xcall_s, c_refuse N q h6, xcall_s]
    unfold xthr
    rw [if_neg h0]
  by_cases h1 : 1 ≤ m ∧ m ≤ 999
  · rw [if_neg (fun hh => hh h1)] at hf
    by_cases h2 : (gB (oS W)).1.length < 10
    · rw [if_neg (by omega)] at hf
      refine sc_ok hN hR hM hw (sBill (oS W) m) (iI ((gB (oS W)).2 : Int)) (nx_bill hw.1 hu h2 h1) (F := fun q3 => xcall (fX3_writeBill N (iI m) q3.1.1) fun q4 => some (0, q4.1, (Thls0 q3.1 q4.2), q3.2)) (B := fX13_writesBill N (iI m)) ?_ (fun t' r' W1 h hW => ?_) rfl (fun s1 g1 => ((m_writesBill hN g1 w (by omega) hm).2 h1).2 h2)
      · unfold fX12_bill
        rw [hf, xcall_s, c_refuse N 0 (by omega), xcall_s]
        rfl
      · have h9 := h.1
        rw [hW] at h9
        obtain ⟨b', e1, e2⟩ := c_writeBill N h9 w h2 h1
        refine ⟨Thls0 t' b', ?_, e2, h.2⟩
        show xcall (fX3_writeBill N (iI m) t'.1) _ = _
        rw [e1, xcall_s]
    · rw [if_pos (by omega)] at hf
      exact sc_no hN hR hM hw 4 2 (by decide) (by decide) (by decide) (by decide) (go 4 (by omega) hf (by omega)) (B := fX13_writesBill N (iI m)) rfl (fun s1 g1 => ((m_writesBill hN g1 w (by omega) hm).2 h1).1 (by omega))
  · rw [if_pos h1] at hf
    exact sc_no hN hR hM hw 3 1 (by decide) (by decide) (by decide) (by decide) (go 3 (by omega) hf (by omega)) (B := fX13_writesBill N (iI m)) rfl (fun s1 g1 => (m_writesBill hN g1 w (by omega) hm).1 h1)
theorem s_pay (hN : 2000 ≤ N) (hR : RT t r W) (hM : RM s W) (hw : WO a b W) (hu : a + b + 1 ≤ 512) {m : Int} (hm : -2147483648 ≤ m ∧ m < 2147483648) : SC [3, 4] W a b (fX12_pay N (iI m) t r) (fX13_pay N (iI m) s) := by
  have w := hw.1.1
  have hf := c_bPay hN hR.1.2.2.2.2.1 w.2.2.2.2.1 hm
  have go : ∀ q, q < 6 → fX2_faultOfPayment N (iI m) t.1.2.2.2.2.1 = some q → q ≠ 0 → fX12_pay N (iI m) t r = some (q, 0, t, r) := fun q h6 hq h0 => by
    unfold fX12_pay
    rw [hq, xcall_s, c_refuse N q h6, xcall_s]
    unfold xthr
    rw [if_neg h0]
  by_cases h1 : 1 ≤ m ∧ m ≤ 999
  · rw [if_neg (fun hh => hh h1)] at hf
    by_cases h2 : m ≤ bSum (gB (oS W)).1
    · rw [if_neg (by omega)] at hf
      refine sc_ok hN hR hM hw (sPay (oS W) m) (iI (((gB (oS W)).1.length : Int) - (payB (oS W) m).length)) (nx_pay hw.1 hu h1) (F := fun q3 => xcall (fX7_chosenSet N (iI m) q3.1.2.2.2.1 q3.1.1.2.2.2.2.1) fun q4 => xcall (fX3_takePayment N (iI m) q4.1 ((Boos4 q3.1.1 q4.2.2))) fun q5 => some (0, q5.1, (Thls3 (Thls0 q3.1 q5.2) q4.2.1), q3.2)) (B := fX13_pays N (iI m)) ?_ (fun t' r' W1 h hW => ?_) rfl (fun s1 g1 => ((m_pays hN g1 w hm).2 h1).2 h2)
      · unfold fX12_pay
        rw [hf, xcall_s, c_refuse N 0 (by omega), xcall_s]
        rfl
      · have h9 := h.1
        rw [hW] at h9
        obtain ⟨u, u1⟩ := c_chosenSet (t := t'.2.2.2.1) hN h9.2.2.2.2.1 w.2.2.2.2.1 h1
        obtain ⟨b', e1, e2⟩ := c_takePayment hN h9 w h1
        refine ⟨Thls3 (Thls0 t' b') u, ?_, e2, h.2⟩
        show xcall (fX7_chosenSet N (iI m) t'.2.2.2.1 t'.1.2.2.2.2.1) _ = _
        rw [u1, xcall_s]
        show xcall (fX3_takePayment N (iI m) (iI (chS (oS W) m : Int)) t'.1) _ = _
        rw [e1, xcall_s]
    · rw [if_pos (by omega)] at hf
      exact sc_no hN hR hM hw 4 2 (by decide) (by decide) (by decide) (by decide) (go 4 (by omega) hf (by omega)) (B := fX13_pays N (iI m)) rfl (fun s1 g1 => ((m_pays hN g1 w hm).2 h1).1 (by omega))
  · rw [if_pos h1] at hf
    exact sc_no hN hR hM hw 3 1 (by decide) (by decide) (by decide) (by decide) (go 3 (by omega) hf (by omega)) (B := fX13_pays N (iI m)) rfl (fun s1 g1 => (m_pays hN g1 w hm).1 h1)
def cgK (N : Nat) (q : Int32) (B : MS → Option (Int32 × MS)) (s : MS) : Option (Int32 × MS) := cgM N (fun s1 => if q = 0 then fX13_fails N 1 s1 else B s1) s
theorem open_K (N : Nat) (k : Int32) (s : MS) {q : Int32} (h : fX13_isKind N k = some q) : fX13_open N k s = cgK N q (fX13_opens N k (-1)) s := by
  unfold fX13_open cgK cgM
  rw [h]
  cases fX13_begin N s with
  | none => rfl
  | some s1 =>
    rw [xcall_s, xcall_s, xcall_s]
    unfold xjoin
    dsimp only
    split <;> rfl
theorem isKdB_t {k : Int} (h : isKdB k = true) : isKd k ∧ isCh k := by
  unfold isKdB at h
  unfold isKd isCh
  simp only [Bool.or_eq_true, decide_eq_true_eq] at h
  omega
theorem s_open (hN : 2000 ≤ N) (hR : RT t r W) (hM : RM s W) (hw : WO a b W) {k : Int} (hk : -2147483648 ≤ k ∧ k < 2147483648) : SC [3, 4] W a b (fX12_open N (iI k) t r) (fX13_open N (iI k) s) := by
  have w := hw.1.1
  have hf := c_fNew N hR.1.1 w.fr.1 hk
  have go : ∀ q, q < 6 → fX1_faultOfNew N (iI k) t.1.1 = some q → q ≠ 0 → fX12_open N (iI k) t r = some (q, 0, t, r) := fun q h6 hq h0 => by
    unfold fX12_open
    rw [hq, xcall_s, c_refuse N q h6, xcall_s]
    unfold xthr
    rw [if_neg h0]
  have hn := w.1.2.1
  by_cases h1 : isKdB k = true
  · have h1' := isKdB_t h1
    rw [if_neg (by rw [h1]; decide)] at hf
    have hm : fX13_open N (iI k) s = cgM N (fX13_opens N (iI k) (iI (-1))) s := by
      rw [open_K N (iI k) s (m_isKind N hk), h1]; rfl
    by_cases h2 : aN (gA (oS W)) < 12
    · rw [if_neg (by omega)] at hf
      refine sc_ok hN hR hM hw (sOpen (oS W) k (-1)) (iI (aN (gA (oS W)) : Int)) (nx_open hw.1 h2 h1'.1 (by omega)) (F := fun q3 => xcall (fX1_add N (iI k) (-1) q3.1.1.1) fun q4 => some (0, q4.1, (Thls0 q3.1 ((Boos0 q3.1.1 q4.2))), q3.2)) ?_ (fun t' r' W1 h hW => ?_) hm (fun s1 g1 => (m_opens N g1 w).2 h2)
      · unfold fX12_open
        rw [hf, xcall_s, c_refuse N 0 (by omega), xcall_s]
        rfl
      · have h9 := h.1
        rw [hW] at h9
        obtain ⟨a', e1, e2⟩ := c_add N h9.1 w.wa h2 (k := k) (p := -1) h1'.2.1 h1'.2.2
        refine ⟨Thls0 t' (Boos0 t'.1 a'), ?_, ⟨e2, h9.2⟩, h.2⟩
        show xcall (fX1_add N (iI k) (iI (-1)) t'.1.1) _ = _
        rw [e1, xcall_s]
    · rw [if_pos (by omega)] at hf
      exact sc_no hN hR hM hw 4 2 (by decide) (by decide) (by decide) (by decide) (go 4 (by omega) hf (by omega)) hm (fun s1 g1 => (m_opens N g1 w).1 (by omega))
  · have h1f : isKdB k = false := by simpa using h1
    rw [if_pos h1f] at hf
    refine sc_no hN hR hM hw 3 1 (by decide) (by decide) (by decide) (by decide) (go 3 (by omega) hf (by omega)) (B := fX13_fails N 1) ?_ (fun s1 g1 => rfl)
    rw [open_K N (iI k) s (m_isKind N hk), h1f]; rfl
theorem openB_K (N : Nat) {z : Int} (hz : -2147483648 ≤ z ∧ z < 2147483648) (s : MS) {A : SA} (hA : GA s.1 A) (hn : aN A ≤ 12) (hN : 2000 ≤ N) : fX13_openBelow N (iI z) s = cgM N (fun s1 => if 0 ≤ z ∧ z < aN A then fX13_opens N (iI (aK A z.toNat)) (iI z) s1 else fX13_fails N 1 s1) s := by
  unfold fX13_openBelow cgM
  rw [m_begin hN, xcall_s, xcall_s, m_isAccount N (s := Ms1 s (cpN s.1 s.2.1 0 0)) hA hn hz, xcall_s]
  unfold xjoin
  dsimp only
  by_cases h : 0 ≤ z ∧ z < aN A
  · rw [decide_eq_true h, if_pos h, if_neg (show ¬ iB true = 0 by decide)]
    rw [i_lit, i_add, xrd_at (k := 9 + z.toNat) (by congr 1; omega) (by omega) (by omega)]
    have e := (hA.2.1 z.toNat (by omega)).1
    show xcall (fX13_opens N (s.1 (9 + z.toNat)) _ _) _ = _
    rw [e]
  · rw [decide_eq_false h, if_neg h]
    rfl
theorem s_openB (hN : 2000 ≤ N) (hR : RT t r W) (hM : RM s W) (hw : WO a b W) {z : Int} (hz : -2147483648 ≤ z ∧ z < 2147483648) : SC [1, 4] W a b (fX12_openBelow N (iI z) t r) (fX13_openBelow N (iI z) s) := by
  have w := hw.1.1
  have hf := c_fNewBelow N hR.1.1 w.fr.1 hz
  have hm := openB_K N hz s hM.1.1 w.fr.1 hN
  have go : ∀ q, q < 6 → fX1_faultOfNewBelow N (iI z) t.1.1 = some q → q ≠ 0 → fX12_openBelow N (iI z) t r = some (q, 0, t, r) := fun q h6 hq h0 => by
    unfold fX12_openBelow
    rw [hq, xcall_s, c_refuse N q h6, xcall_s]
    unfold xthr
    rw [if_neg h0]
  have hn := w.1.2.1
  by_cases h1 : 0 ≤ z ∧ z < aN (gA (oS W))
  · rw [if_neg (fun hh => hh h1)] at hf
    have hk := w.wa.2.2.1 z.toNat (by omega)
    by_cases h2 : aN (gA (oS W)) < 12
    · rw [if_neg (by omega)] at hf
      refine sc_ok hN hR hM hw (sOpen (oS W) (aK (gA (oS W)) z.toNat) z) (iI (aN (gA (oS W)) : Int)) (nx_open hw.1 h2 hk.1 (by omega)) (F := fun q3 => xcall (fX1_kindAt N (iI z) q3.1.1.1) fun q4 => xcall (fX1_add N q4 (iI z) q3.1.1.1) fun q5 => some (0, q5.1, (Thls0 q3.1 ((Boos0 q3.1.1 q5.2))), q3.2)) ?_ (fun t' r' W1 h hW => ?_) hm (fun s1 g1 => ?_)
      · unfold fX12_openBelow
        rw [hf, xcall_s, c_refuse N 0 (by omega), xcall_s]
        rfl
      · have h9 := h.1
        rw [hW] at h9
        have hk2 : isCh (aK (gA (oS W)) z.toNat) := by
          have := hk.1
          unfold isKd at this
          unfold isCh
          omega
        obtain ⟨a', e1, e2⟩ := c_add N h9.1 w.wa h2 (k := aK (gA (oS W)) z.toNat) (p := z) hk2.1 hk2.2
        have e3 := c_kindAt N h9.1 w.wa (i := z.toNat) (by omega)
        rw [Int.toNat_of_nonneg h1.1] at e3
        refine ⟨Thls0 t' (Boos0 t'.1 a'), ?_, ⟨e2, h9.2⟩, h.2⟩
        show xcall (fX1_kindAt N (iI z) t'.1.1) _ = _
        rw [e3, xcall_s]
        show xcall (fX1_add N _ (iI z) t'.1.1) _ = _
        rw [e1, xcall_s]
      · rw [if_pos h1]
        exact (m_opens N g1 w).2 h2
    · rw [if_pos (by omega)] at hf
      refine sc_no hN hR hM hw 4 2 (by decide) (by decide) (by decide) (by decide) (go 4 (by omega) hf (by omega)) hm (fun s1 g1 => ?_)
      rw [if_pos h1]
      exact (m_opens N g1 w).1 (by omega)
  · rw [if_pos h1] at hf
    refine sc_no hN hR hM hw 1 1 (by decide) (by decide) (by decide) (by decide) (go 1 (by omega) hf (by omega)) hm (fun s1 g1 => ?_)
    rw [if_neg h1]
    rfl
/-- the curtain: nothing is refused -/
theorem s_curtain (hN : 2000 ≤ N) (hR : RT t r W) (hM : RM s W) (hw : WO a b W) (hu : a + b + 1 ≤ 512) : ∃ t' r' v s' W', fX12_curtain N t r = some (v, t', r') ∧ fX13_curtain N s = some (v, s') ∧ RT t' r' W' ∧ RM s' W' ∧ NO a b W' ∧ W'.2.2 = W.2.2 := by
  have w := hw.1.1
  obtain ⟨f1, f2, f3⟩ := fall_ok hw.1 hu
  have hc : SC [] W a b (xcall (fX12_curtain N t r) fun q => some (0, q.1, q.2.1, q.2.2)) (fX13_curtain N s) := by
    refine sc_ok hN hR hM hw (sFall (oS W)) (iI (sumN (gainAt (gA (oS W))) (aN (gA (oS W))))) (nx_fall hw.1 hu) (F := fun q1 => xcall (fX3_dropCurtain N q1.1.1) fun q2 => some (0, Int64.toInt32 q2.1, (Thls0 q1.1 q2.2), q1.2)) (B := fX13_falls N) ?_ (fun t' r' W1 h hW => ?_) rfl (fun s1 g1 => m_falls hN g1 w f1 f2)
    · unfold fX12_curtain
      cases fX12_record N t r with
      | none => rfl
      | some q =>
        rw [xcall_s, xcall_s]
        cases fX3_dropCurtain N q.1.1 with
        | none => rfl
        | some q2 => rfl
    · have h9 := h.1
      rw [hW] at h9
      obtain ⟨b', e1, e2⟩ := c_dropCurtain hN h9 w f1 f2
      refine ⟨Thls0 t' b', ?_, e2, h.2⟩
      show xcall (fX3_dropCurtain N t'.1) _ = _
      rw [e1, xcall_s, l_toI]
  obtain ⟨q, v, v', t', r', s', W', c1, c2, c3, c4, c5, c6, c7, c8, c9⟩ := hc
  have hq : q = 0 := by rcases c4 with h | h; exact h; cases h
  rw [← c5 hq] at c2
  cases e : fX12_curtain N t r with
  | none => rw [e] at c1; cases c1
  | some x =>
    rw [e, xcall_s] at c1
    have h := Option.some.inj c1
    refine ⟨t', r', v, s', W', ?_, c2, c6, c7, c8, c9⟩
    rw [← (Prod.mk.inj (Prod.mk.inj h).2).1, ← (Prod.mk.inj (Prod.mk.inj (Prod.mk.inj h).2).2).1, ← (Prod.mk.inj (Prod.mk.inj (Prod.mk.inj h).2).2).2]
end SCs
