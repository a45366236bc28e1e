/-! ===== a bill in a match; undo, save, restore; the text that waits; the output ===== -/
section KP
variable {N : Nat} {t : ThlS} {r : Nat → BooS} {s : MS} {S : SG} {W : SO} {a b : Nat}
theorem e_isInMatch (hN : 2000 ≤ N) (hR : RBo t.1 S) (hM : GG s.1 S) (w : WG S) {z m : Int} (hz : -2147483648 ≤ z ∧ z < 2147483648) (hm : -2147483648 ≤ m ∧ m < 2147483648) : RX [2, 3, 4] (fX12_isInMatch N (iI z) (iI m) t) (fX13_isInMatch N (iI z) (iI m) s) t s := by
  have hl := w.fr.2.2.2
  have hc := c_checkAmt N hm
  have hlt := chS_lt w m
  have hp := m_billPlace hN hM.2.2.2.2.1 w.2.2.2.2.1 hz
  unfold fX12_isInMatch fX13_isInMatch
  rw [c_checkedPlace hN hR w hz, hp, xcall_s, xcall_s]
  unfold xjoin
  dsimp only
  rcases plcI_cases z (gB S).1 with h | ⟨i, x, h, hx⟩
  · rw [if_pos h, h]
    exact rx_no 2 0 (iI 0) t.2.2.2.1 rfl (by decide) (by decide) rfl
  · have hi := lt_len hx
    have hne : ¬ iI (i : Int) = -1 := by rw [show (-1 : Int32) = iI (-1) from rfl, i_eq (by omega) (by omega) (by omega) (by omega)]; omega
    have hne1 : ¬ iI (i : Int) = -iI 1 := by rw [i_neg, i_eq (by omega) (by omega) (by omega) (by omega)]; omega
    rw [if_neg (show ¬ plcI z (gB S).1 = -1 by omega), h, if_neg hne, show (1 : Int32) = iI 1 from rfl, show (999 : Int32) = iI 999 from rfl, m_in N hm (by omega) (by omega), xcall_s]
    show RX _ (xcall (fX12_checkAmount N (iI m)) _) _ t s
    rw [hc, xcall_s]
    by_cases h1 : 1 ≤ m ∧ m ≤ 999
    · rw [if_pos h1, decide_eq_true h1, if_neg (show ¬ iB true = 0 by decide), m_chosen hN hM.2.2.2.2.1 w.2.2.2.2.1 h1, xcall_s, if_neg hne1, xcall_s, if_neg (show ¬ iB true = 0 by decide)]
      obtain ⟨u, e1⟩ := c_chosenSet (t := t.2.2.2.1) hN hR.2.2.2.2.1 w.2.2.2.2.1 h1
      show RX _ (xcall (fX7_chosenSet N (iI m) t.2.2.2.1 t.1.2.2.2.2.1) _) (if iI (chS S m : Int) = 0 then _ else _) t s
      rw [e1, xcall_s]
      show RX _ (if iI (chS S m : Int) = 0 then _ else _) _ t s
      by_cases h2 : chS S m = 0
      · rw [h2]
        exact rx_no 4 0 (iI 0) u rfl (by decide) (by decide) rfl
      · have hne2 : ¬ iI (chS S m : Int) = 0 := by rw [i_lit, i_eq (by omega) (by omega) (by omega) (by omega)]; omega
        rw [if_neg hne2, if_neg hne2, if_pos (show (0 : Int32) = 0 from rfl)]
        refine rx_ok (iB ((chS S m).testBit i)) u ?_ ?_
        · show xcall (fX12_isInSet N (iI (i : Int)) (iI (chS S m : Int))) _ = _
          rw [c_isInSet N (by omega) (by omega), xcall_s, xnz_of xnar_b]
        · show (if ((iI (chS S m : Int) >>> (iI (i : Int) &&& 31)) &&& 1) = iI 1 then _ else _) = _
          rw [bit_tst (by omega) (by omega)]
          cases (chS S m).testBit i <;> rfl
    · rw [if_neg h1, decide_eq_false h1]
      exact rx_no 3 0 (iI 0) t.2.2.2.1 rfl (by decide) (by decide) (by rw [if_pos (show iB false = 0 by decide), if_neg hne1, xcall_s]; rfl)
theorem nil_at {α : Type} {p : Prop} {i : Nat} {x : α} (h : ([] : List α)[i]? = some x) : p := by simp at h
theorem dropL_at {α : Type} {H : List α} {i : Nat} {x : α} (h : H.dropLast[i]? = some x) : H[i]? = some x ∧ i < H.length - 1 := by
  have hl := lt_len h
  rw [List.length_dropLast] at hl
  rw [List.getElem?_dropLast, if_pos hl] at h
  exact ⟨h, hl⟩
theorem uprow_self (rs : Nat → BooS) (k : Nat) : uprow rs k (rs k) = rs := by
  funext j
  unfold uprow
  by_cases h : j = k
  · rw [if_pos h, h]
  · rw [if_neg h]
theorem hist_last {H : List SG} (h : H ≠ []) : ∃ L, H[H.length - 1]? = some L ∧ L ∈ H := by
  have : 0 < H.length := by cases H with | nil => exact absurd rfl h | cons => simp
  exact ⟨H[H.length - 1], List.getElem?_eq_getElem (by omega), List.getElem_mem _⟩
/-- one step back -/
theorem s_undo (hN : 2000 ≤ N) (hR : RT t r W) (hM : RM s W) (hw : WO a b W) : SC [4] W a b (fX12_undo N t r) (fX13_undo N s) := by
  obtain ⟨h1, h2, h3, h4, h5, h6, h7⟩ := hR
  obtain ⟨m1, m2, m3, m4⟩ := hM
  obtain ⟨hl, f, hf, k1, k2, k3⟩ := h3
  unfold fX12_undo fX13_undo
  rw [k2, m2]
  by_cases h0 : oH W = []
  · rw [h0]
    exact ⟨4, 0, iI 0, t, r, Ms12 s (iI 1), W, rfl, rfl, rfl, .inr (by decide), fun h => absurd h (by decide), ⟨h1, h2, ⟨hl, f, hf, k1, k2, k3⟩, h4, h5, h6, h7⟩, ⟨m1, m2, m3, m4⟩, ⟨a, b, by omega, hw⟩, rfl⟩
  · obtain ⟨L, hL, hLm⟩ := hist_last h0
    have hp : 0 < (oH W).length := by have := lt_len hL; omega
    have hwL := (hw.2.1 L hLm)
    have hne : ¬ iI ((oH W).length : Int) = 0 := by rw [i_lit, i_eq (by omega) (by omega) (by omega) (by omega)]; omega
    have e1 : iI ((oH W).length : Int) - 1 = iI (((oH W).dropLast.length : Nat) : Int) := by rw [i_lit, i_sub, List.length_dropLast]; congr 1; omega
    have hrow : RBo (r ((f + (oH W).dropLast.length) % 9)) L := by rw [List.length_dropLast]; exact k3 _ L hL
    have hfr := c_free (his := (t.2.2.1.1, iI (((oH W).dropLast.length : Nat) : Int))) (H := (oH W).dropLast) N hf k1 rfl (by rw [List.length_dropLast]; omega)
    obtain ⟨b', c1, c2⟩ := c_bookCopy (b := t.1) N hrow hwL.1
    rw [if_neg hne, if_neg hne]
    refine ⟨0, iI (((oH W).dropLast.length : Nat) : Int), iI (((oH W).dropLast.length : Nat) : Int), Thls2 (Thls0 t b') (t.2.2.1.1, iI (((oH W).dropLast.length : Nat) : Int)), r, Ms12 (Ms3 (Ms2 (Ms0 s (cpN s.2.2.1 s.1 ((oH W).dropLast.length * 229) 0)) s.2.2.1) (iI (((oH W).dropLast.length : Nat) : Int))) (iI 0), (L, (oH W).dropLast, W.2.2), ?_, ?_, rfl, .inl rfl, fun _ => rfl, ?_, ?_, ⟨a, b, by omega, hwL, fun S hS => hw.2.1 S (List.dropLast_subset _ hS), hw.2.2.1, ?_, hw.2.2.2.2⟩, rfl⟩
    · unfold fX5_stepBack fX5_putBack xlet
      rw [k2, e1]
      show xcall (xcall (xcall (fX5_free N (t.2.2.1.1, iI (((oH W).dropLast.length : Nat) : Int))) _) _) _ = _
      rw [hfr, xcall_s, xnz_d (by omega), c1, xcall_s, xcall_s, xcall_s, uprow_self]
    · unfold xlet
      rw [e1]
      dsimp only
      have e2 : iI (((oH W).dropLast.length : Nat) : Int) * 229 = iI (((oH W).dropLast.length * 229 : Nat) : Int) := by rw [i_lit, i_mul]; congr 1
      have hlen : (oH W).dropLast.length ≤ 7 := by rw [List.length_dropLast]; omega
      rw [e2, show (0 : Int32) = iI ((0 : Nat) : Int) from rfl, m_copy hN _ _ (by omega) (by omega) (by omega) (by omega), xcall_s]
      rfl
    · refine ⟨c2, h2, ⟨by rw [List.length_dropLast]; omega, f, hf, k1, rfl, fun i S' hi => ?_⟩, h4, h5, h6, h7⟩
      obtain ⟨d1, d2⟩ := dropL_at hi
      exact k3 i S' d1
    · refine ⟨?_, rfl, fun i S' hi => m3 i S' (dropL_at hi).1, m4⟩
      have hg := m3 _ L hL
      refine hg.eq hwL.1 fun k hk => ?_
      show cpN s.2.2.1 s.1 ((oH W).dropLast.length * 229) 0 k = _
      unfold cpN
      rw [if_pos (by omega), List.length_dropLast, show k - 0 = k by omega]
    · rw [List.length_dropLast]; omega
theorem s_save (hN : 2000 ≤ N) (hR : RT t r W) (hM : RM s W) (hw : WO a b W) : ∃ v t' s', fX12_save N t = some (v, t') ∧ fX13_save N s = some (v, s') ∧ s'.2.2.2.2.2.2.2.2.2.2.2.2.1 = iI 0 ∧ RT t' r (oS W, oH W, some (oS W), W.2.2.2) ∧ RM s' (oS W, oH W, some (oS W), W.2.2.2) ∧ WO a b (oS W, oH W, some (oS W), W.2.2.2) := by
  obtain ⟨h1, h2, h3, h4, h5, h6, h7⟩ := hR
  obtain ⟨m1, m2, m3, m4, m5⟩ := hM
  have w := hw.1.1
  obtain ⟨b', c1, c2⟩ := c_bookCopy (b := t.2.1) N h1 w
  refine ⟨iI (aN (gA (oS W)) : Int), Thls7 (Thls1 t b') 1, Ms12 (Ms5 (Ms4 s (cpN s.1 s.2.2.2.2.1 0 0)) 1) (iI 0), ?_, ?_, rfl, ⟨h1, ⟨rfl, fun S hS => ?_⟩, h3, h4, h5, h6, h7⟩, ⟨m1, m2, m3, ⟨rfl, fun S hS => ?_⟩, m5⟩, ⟨hw.1, hw.2.1, fun S hS => ?_, hw.2.2.2⟩⟩
  · unfold fX12_save
    rw [c1, xcall_s, h1.1.2.1]
  · unfold fX13_save
    rw [show fX13_copy N 229 229 0 0 s.1 s.2.2.2.2.1 = some (s.1, cpN s.1 s.2.2.2.2.1 0 0) from m_copy hN (a := 0) (b := 0) _ _ (by decide) (by decide) (by decide) (by decide), xcall_s, m1.1.1]
    rfl
  · injection hS with hS
    subst hS
    exact c2
  · injection hS with hS
    subst hS
    refine m1.eq w fun k hk => ?_
    show cpN s.1 s.2.2.2.2.1 0 0 k = _
    unfold cpN
    rw [if_pos (by omega), show 0 + (k - 0) = k by omega]
  · injection hS with hS
    subst hS
    exact hw.1
theorem s_restore (hN : 2000 ≤ N) (hR : RT t r W) (hM : RM s W) (hw : WO a b W) : SC [4] W a b (xcall (fX12_restore N t) fun q => some (q.1, q.2.1, q.2.2, r)) (fX13_restore N s) := by
  have hR0 := hR
  have hM0 := hM
  obtain ⟨h1, ⟨h2, h2b⟩, h3, h4, h5, h6, h7⟩ := hR
  obtain ⟨m1, m2, m3, ⟨m4, m4b⟩, m5⟩ := hM
  obtain ⟨hl, f, hf, k1, k2, k3⟩ := h3
  unfold fX12_restore fX13_restore
  rw [h2, m4]
  cases hV : oV W with
  | none => exact ⟨4, 0, iI 0, t, r, Ms12 s (iI 1), W, rfl, rfl, rfl, .inr (by decide), fun h => absurd h (by decide), hR0, hM0, ⟨a, b, by omega, hw⟩, rfl⟩
  | some L =>
    have hwL := hw.2.2.1 L hV
    obtain ⟨b', c1, c2⟩ := c_bookCopy (b := t.1) N (h2b L hV) hwL.1
    have hg := m4b L hV
    refine ⟨0, iI (aN (gA L) : Int), iI (aN (gA L) : Int), Thls2 (Thls0 t b') (t.2.2.1.1, 0), r, Ms12 (Ms4 (Ms3 (Ms0 s (cpN s.2.2.2.2.1 s.1 0 0)) 0) s.2.2.2.2.1) (iI 0), (L, [], W.2.2), ?_, ?_, rfl, .inl rfl, fun _ => rfl, ⟨c2, ⟨h2, h2b⟩, ⟨Nat.zero_le _, f, hf, k1, rfl, fun i S' hi => nil_at hi⟩, h4, h5, h6, h7⟩, ⟨?_, rfl, fun i S' hi => nil_at hi, ⟨m4, m4b⟩, m5⟩, ⟨a, b, by omega, hwL, fun S hS => (List.not_mem_nil hS).elim, hw.2.2.1, Nat.zero_le _, hw.2.2.2.2⟩, rfl⟩
    · show xcall (xcall (fX3_copyFrom N t.1 t.2.1) _) _ = _
      rw [c1, xcall_s]
      show some (0, b'.1.2.2.2.2, _) = _
      rw [c2.1.2.1]
    · show xcall (fX13_copy N 229 229 0 0 s.2.2.2.2.1 s.1) _ = _
      rw [show fX13_copy N 229 229 0 0 s.2.2.2.2.1 s.1 = some (s.2.2.2.2.1, cpN s.2.2.2.2.1 s.1 0 0) from m_copy hN (a := 0) (b := 0) _ _ (by decide) (by decide) (by decide) (by decide), xcall_s]
      have e : cpN s.2.2.2.2.1 s.1 0 0 1 = iI (aN (gA L) : Int) := hg.1.1
      show xcall (fX13_done N (cpN s.2.2.2.2.1 s.1 0 0 1) _) _ = _
      rw [e]
      rfl
    · refine hg.eq hwL.1 fun k hk => ?_
      show cpN s.2.2.2.2.1 s.1 0 0 k = _
      unfold cpN
      rw [if_pos (by omega), show 0 + (k - 0) = k by omega]
theorem e_undoCount (hR : RT t r W) (hM : RM s W) : R0 (fX12_undoCount N t) (fX13_undoCount N s) s := by
  obtain ⟨h1, h2, ⟨hl, f, hf, k1, k2, k3⟩, h4⟩ := hR
  obtain ⟨m1, m2, m3⟩ := hM
  exact ⟨iI ((oH W).length : Int), by unfold fX12_undoCount; rw [k2], by unfold fX13_undoCount; rw [m2]; rfl⟩
theorem e_errorPos (hR : RT t r W) (hM : RM s W) (hw : WO a b W) : RD [2] (fX12_errorPosition N t) (fX13_errorPosition N s) s := by
  obtain ⟨h1, h2, h3, h4, h5, h6, h7⟩ := hR
  obtain ⟨m1, m2, m3, m4, m5, m6, m7, m8⟩ := hM
  have hr := hw.2.2.2.2.2.2.1
  unfold fX12_errorPosition fX13_errorPosition xjoin
  rw [h6, m6]
  by_cases h : oE W = -1
  · rw [h]
    exact rd_no 2 0 (iI 0) rfl (by decide) (by decide) rfl
  · have hne : ¬ iI (oE W) = -1 := by rw [show (-1 : Int32) = iI (-1) from rfl, i_eq (by omega) (by omega) (by omega) (by omega)]; omega
    dsimp only
    rw [if_neg hne, if_neg hne]
    exact rd_ok (iI (oE W)) rfl rfl
theorem e_failed (hR : RT t r W) (hM : RM s W) (hw : WO a b W) : RD [2] (fX12_failedCommand N t) (fX13_failedCommand N s) s := by
  obtain ⟨h1, h2, h3, h4, h5, h6, h7⟩ := hR
  obtain ⟨m1, m2, m3, m4, m5, m6, m7, m8⟩ := hM
  have hr := hw.2.2.2.2.2.2.2
  unfold fX12_failedCommand fX13_failedCommand xjoin
  rw [h7, m7]
  by_cases h : oF W = -1
  · rw [h]
    exact rd_no 2 0 (iI 0) rfl (by decide) (by decide) rfl
  · have hne : ¬ iI (oF W) = -1 := by rw [show (-1 : Int32) = iI (-1) from rfl, i_eq (by omega) (by omega) (by omega) (by omega)]; omega
    dsimp only
    rw [if_neg hne, if_neg hne]
    exact rd_ok (iI (oF W)) rfl rfl
theorem e_outputChar (hR : RT t r W) (hM : RM s W) (hw : WO a b W) {z : Int} (hz : -2147483648 ≤ z ∧ z < 2147483648) : RD [1] (fX12_outputChar N (iI z) t) (fX13_outputChar N (iI z) s) s := by
  obtain ⟨h1, h2, h3, h4, ⟨h5, h5b⟩, h6, h7⟩ := hR
  obtain ⟨m1, m2, m3, m4, m5, m6, m7, m8, m8b⟩ := hM
  have hr := hw.2.2.2.2.2.1
  unfold fX12_outputChar fX13_outputChar xjoin
  rw [h5, m8, show (1 : Int32) = iI 1 from rfl, i_sub, show (0 : Int32) = iI 0 from rfl, c_within N hz (by omega) (by omega), m_in N hz (by omega) (by omega), xcall_s, xcall_s]
  dsimp only
  by_cases h : 0 ≤ z ∧ z ≤ ((oO W).length : Int) - 1
  · obtain ⟨c, hc⟩ : ∃ c, (oO W)[z.toNat]? = some c := ⟨_, List.getElem?_eq_getElem (by omega)⟩
    have hch := hr.2 c (List.mem_of_getElem? hc)
    rw [decide_eq_true h, if_neg (show ¬ iB true = iI 0 by decide), if_neg (show ¬ iB true = iI 0 by decide), if_pos rfl, xrd_at (k := z.toNat) (by congr 1; omega) (by omega) (by omega), xrd_at (k := z.toNat) (by congr 1; omega) (by omega) (by omega), h5b _ c hc, xnz_of (xnar_char hch.1 hch.2)]
    show RD _ _ (xnz (xnar .char (s.2.2.2.2.2.2.2.2.2.2.1 z.toNat)) _) s
    rw [m8b _ c hc, xnz_of (xnar_char hch.1 hch.2)]
    exact rd_ok (iI c) rfl rfl
  · rw [decide_eq_false h]
    exact rd_no 1 0 (iI 0) rfl (by decide) (by decide) rfl
theorem AC.app {f : Nat → Int32} {L : List Int} (h : AC f L) (c : Int) : AC (upd f L.length (iI c)) (L ++ [c]) := by
  intro i x hx
  have hi := lt_len hx
  rw [List.length_append] at hi
  simp only [List.length_cons, List.length_nil] at hi
  by_cases e : i < L.length
  · rw [List.getElem?_append_left e] at hx
    rw [upd_ne (by omega)]
    exact h i x hx
  · have e : i = L.length := by omega
    subst e
    simp at hx
    subst hx
    rw [upd_eq]
def tW (W : SO) (T : List Int) : SO := (oS W, oH W, oV W, T, W.2.2.2.2)
theorem s_feed (hR : RT t r W) (hM : RM s W) (hw : WO a b W) {c : Int} (hc : isCh c) : ∃ q v v' t' s' W', fX12_feed N (iI c) t = some (q, v, t') ∧ fX13_feed N (iI c) s = some (v', s') ∧ s'.2.2.2.2.2.2.2.2.2.2.2.2.1 = iI (lawC [4] q : Int) ∧ (q = 0 ∨ q ∈ [4]) ∧ (q = 0 → v = v') ∧ RT t' r W' ∧ RM s' W' ∧ WO a b W' ∧ ((oT W').length ≤ (oT W).length + 1) := by
  have hR0 := hR
  have hM0 := hM
  obtain ⟨h1, h2, h3, ⟨h4, h4b⟩, h5⟩ := hR
  obtain ⟨m1, m2, m3, m4, ⟨m5, m5b⟩, m6⟩ := hM
  have hl := hw.2.2.2.2.1
  unfold fX12_feed fX13_feed
  rw [h4, m5]
  by_cases h : (oT W).length = 60
  · rw [h]
    exact ⟨4, 0, iI 0, t, Ms12 s (iI 1), W, rfl, rfl, rfl, .inr (by decide), fun h => absurd h (by decide), hR0, hM0, hw, by omega⟩
  · rw [if_pos (by rw [i_lit, i_lt (by omega) (by omega) (by omega) (by omega)]; omega), if_neg (by rw [i_lit, i_eq (by omega) (by omega) (by omega) (by omega)]; omega)]
    refine ⟨0, iI (((oT W).length + 1 : Nat) : Int), iI (((oT W).length + 1 : Nat) : Int), Thls4 t (Scrs1 (Scrs0 t.2.2.2.2.1 (upd t.2.2.2.2.1.1 (oT W).length (iI c))) (iI (((oT W).length + 1 : Nat) : Int))), Ms12 (Ms7 (Ms6 s (upd s.2.2.2.2.2.2.1 (oT W).length (iI c))) (iI (((oT W).length + 1 : Nat) : Int))) (iI 0), tW W (oT W ++ [c]), ?_, ?_, rfl, .inl rfl, fun _ => rfl, ⟨h1, h2, h3, ⟨?_, h4b.app c⟩, h5⟩, ⟨m1, m2, m3, m4, ⟨?_, m5b.app c⟩, m6⟩, ⟨hw.1, hw.2.1, hw.2.2.1, hw.2.2.2.1, ⟨?_, ?_⟩, hw.2.2.2.2.2⟩, ?_⟩
    · unfold fX9_append xjoin
      dsimp only
      rw [h4, if_neg (by rw [i_lit, i_le (by omega) (by omega) (by omega) (by omega)]; omega), xrd_n (by omega) (by omega)]
      unfold xlet
      rw [vnar_char hc.1 hc.2, show (1 : Int32) = iI 1 from rfl, i_add, xcall_s]
      rfl
    · rw [xrd_n (by omega) (by omega)]
      unfold xlet
      rw [vnar_char hc.1 hc.2, show (1 : Int32) = iI 1 from rfl, i_add]
      rfl
    · show iI (((oT W).length + 1 : Nat) : Int) = iI ((oT W ++ [c]).length : Int)
      rw [List.length_append]; rfl
    · show iI (((oT W).length + 1 : Nat) : Int) = iI ((oT W ++ [c]).length : Int)
      rw [List.length_append]; rfl
    · show (oT W ++ [c]).length ≤ 60
      rw [List.length_append]; show (oT W).length + 1 ≤ 60; omega
    · intro x hx
      rcases List.mem_append.mp hx with h9 | h9
      · exact hl.2 x h9
      · simp at h9; subst h9; exact hc
    · show (oT W ++ [c]).length ≤ _
      rw [List.length_append]; exact Nat.le_refl _
end KP
