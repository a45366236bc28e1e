/-! ===== changes: the reference, the rest ===== -/
section MR
variable {s : MS} {S : SG} {g g' : Nat → Int32}
theorem GG.L (h : GG g S) (w : WG S) {L : SL} (hL : GL g' L) (he : ∀ k, k ≠ 5 → (k < 193 ∨ 209 ≤ k) → g' k = g k) : GG g' (wL S L) := by
  obtain ⟨f1, f2, f3, f4⟩ := w.fr
  obtain ⟨r1, r2, r3, r4, r5, r6, r7⟩ := h
  exact ⟨r1.of f1 fun k hk => he k (by omega) (by omega), r2.of fun k hk => he k (by omega) (by omega), r3.of f2 fun k hk => he k (by omega) (by omega), hL, r5.of f4 fun k hk => he k (by omega) (by omega), by rw [he 0 (by omega) (by omega)]; exact r6, by rw [he 8 (by omega) (by omega)]; exact r7⟩
theorem GG.B (h : GG g S) (w : WG S) {B : SB} (hB : GB g' B) (he : ∀ k, k ≠ 6 → k ≠ 7 → k < 209 → g' k = g k) : GG g' (wB S B) := by
  obtain ⟨f1, f2, f3, f4⟩ := w.fr
  obtain ⟨r1, r2, r3, r4, r5, r6, r7⟩ := h
  exact ⟨r1.of f1 fun k hk => he k (by omega) (by omega) (by omega), r2.of fun k hk => he k (by omega) (by omega) (by omega), r3.of f2 fun k hk => he k (by omega) (by omega) (by omega), r4.of f3 fun k hk => he k (by omega) (by omega) (by omega), hB, by rw [he 0 (by omega) (by omega) (by omega)]; exact r6, by rw [he 8 (by omega) (by omega) (by omega)]; exact r7⟩
theorem GG.P (h : GG g S) (w : WG S) {P : SP} (hP : GP g' (gH S) P) (he : ∀ k, k ≠ 4 → (k < 157 ∨ 193 ≤ k) → g' k = g k) : GG g' (wP S P) := by
  obtain ⟨f1, f2, f3, f4⟩ := w.fr
  obtain ⟨r1, r2, r3, r4, r5, r6, r7⟩ := h
  exact ⟨r1.of f1 fun k hk => he k (by omega) (by omega), r2.of fun k hk => he k (by omega) (by omega), hP, r4.of f3 fun k hk => he k (by omega) (by omega), r5.of f4 fun k hk => he k (by omega) (by omega), by rw [he 0 (by omega) (by omega)]; exact r6, by rw [he 8 (by omega) (by omega)]; exact r7⟩
theorem m_opens (N : Nat) (h : GG s.1 S) (w : WG S) {k p : Int} : (aN (gA S) = 12 → fX13_opens N (iI k) (iI p) s = some (iI 0, Ms12 s (iI 2))) ∧ (aN (gA S) < 12 → ∃ g', fX13_opens N (iI k) (iI p) s = some (iI (aN (gA S) : Int), Ms12 (Ms0 s g') (iI 0)) ∧ GG g' (sOpen S k p)) := by
  have hn := w.1.2.1
  have hz := w.1.2.2.2.2.1
  obtain ⟨f1, f2, f3, f4⟩ := w.fr
  obtain ⟨r1, r2, r3, r4, r5, r6, r7⟩ := h
  unfold fX13_opens
  rw [r1.1]
  refine ⟨fun h0 => ?_, fun h0 => ?_⟩
  · rw [h0]
    simp only [xlet, xjoin, xnz_b0, xnz_b1, xnz_b, xcall_s, i_lit, i_add, i_sub, i_mul, i_neg, m_fails]
    rw [if_pos (show iI ((12 : Nat) : Int) = iI 12 from rfl)]
  · simp (disch := omega) only [xlet, xjoin, xnz_b0, xnz_b1, xnz_b, xcall_s, i_lit, i_add, i_sub, i_mul, i_neg, i_le, i_lt, i_eq, l_cmp0, l_cmplt, l_cmpgt, l_cmple, l_cmpge, b_zero, b_one, decide_eq_false_iff_not, decide_eq_true_eq, m_fails, xrd_ln, upd_ne, r1.1, m_done, Ms0, Ms1, Ms2, Ms3, Ms4, Ms5, Ms6, Ms7, Ms8, Ms9, Ms10, Ms11, Ms12, Ms13, Ms14, Ms15]
    rw [if_neg (by omega)]
    refine ⟨_, rfl, ⟨?_, fun i hi => ?_, fun i hi => ?_⟩, r2.of fun k hk => ?_, r3.of f2 fun k hk => ?_, r4.of f3 fun k hk => ?_, r5.of f4 fun k hk => ?_, ?_, ?_⟩
    · rw [upd_eq]; rfl
    · have hi : i < aN (gA S) + 1 := hi
      show _ = iI (updI (aK (gA S)) (aN (gA S)) k i) ∧ _ = iI (updI (aP (gA S)) (aN (gA S)) p i + 1)
      by_cases e : i = aN (gA S)
      · subst e
        simp (disch := omega) only [upd_ne, upd_eq, updI_eq]
        exact ⟨by trivial, by trivial⟩
      · simp (disch := omega) only [upd_ne, updI_ne]
        exact r1.2.1 i (by omega)
    · simp (disch := omega) only [upd_ne]
      exact r1.2.2 i hi
    · simp (disch := omega) only [upd_ne]
    · simp (disch := omega) only [upd_ne]
    · simp (disch := omega) only [upd_ne]
    · simp (disch := omega) only [upd_ne]
    · simp (disch := omega) only [upd_ne]
      exact r6
    · simp (disch := omega) only [upd_ne]
      exact r7
theorem m_cancels {N : Nat} (hN : 2000 ≤ N) (h : GG s.1 S) (w : WG S) {z : Int} (hz : -2147483648 ≤ z ∧ z < 2147483648) : (¬ (0 ≤ z ∧ z < (gP S).length) → fX13_cancels N (iI z) s = some (iI 0, Ms12 s (iI 1))) ∧ (∀ (i : Nat) (x : SPe), z = i → (gP S)[i]? = some x → ∃ g', fX13_cancels N (iI z) s = some (iI x.2.2.2.2.1, Ms12 (Ms0 s g') (iI 0)) ∧ GG g' (wP S ((gP S).eraseIdx i))) := by
  obtain ⟨f1, f2, f3, f4⟩ := w.fr
  have hp := h.2.2.1
  unfold fX13_cancels
  rw [m_isPrompt N hp f2 hz, xcall_s]
  refine ⟨fun h0 => ?_, fun i x hi hx => ?_⟩
  · rw [decide_eq_false h0]
    simp only [xlet, xjoin, xnz_b0, xnz_b1, xnz_b, xcall_s, i_lit, i_add, i_sub, i_mul, i_neg, m_fails, b_zero, if_true]
  · subst hi
    have hl := lt_len hx
    rw [decide_eq_true (by omega)]
    obtain ⟨g', d1, d2, d3⟩ := m_ends hN hp f2 hl
    have e5 := (hp.2 i x hx).2.2.2.2.1
    refine ⟨g', ?_, h.P w d2 d3⟩
    simp (disch := omega) only [xlet, xjoin, xnz_b0, xnz_b1, xnz_b, xcall_s, i_lit, i_add, xrd_ln, e5, i_lit, i_add, i_sub, i_mul, i_neg, b_zero, d1, m_done]
    rw [if_neg (by decide)]
theorem m_buys {N : Nat} (hN : 2000 ≤ N) (h : GG s.1 S) (w : WG S) {k p : Int} (hk : -2147483648 ≤ k ∧ k < 2147483648) (hp : -2147483648 ≤ p ∧ p < 2147483648) : (¬ ((1 ≤ k ∧ k ≤ 20) ∧ (1 ≤ p ∧ p ≤ 40)) → fX13_buys N (iI k) (iI p) s = some (iI 0, Ms12 s (iI 1))) ∧ ((1 ≤ k ∧ k ≤ 20) ∧ (1 ≤ p ∧ p ≤ 40) → ((gL S).length = 8 → fX13_buys N (iI k) (iI p) s = some (iI 0, Ms12 s (iI 2))) ∧ ((gL S).length < 8 → (bal (gA S) 0 < k * p → fX13_buys N (iI k) (iI p) s = some (iI 0, Ms12 s (iI 3))) ∧ (k * p ≤ bal (gA S) 0 → ∃ g', fX13_buys N (iI k) (iI p) s = some (iI (k * p), Ms12 (Ms0 s g') (iI 0)) ∧ GG g' (sBuy S k p)))) := by
  have hn := w.1.1
  have hb := bal_rng w.wa (i := 0) (by omega)
  obtain ⟨f1, f2, f3, f4⟩ := w.fr
  have r4 := h.2.2.2.1
  have em := m_bal N h.1 w.wa (i := 0) (by omega)
  rw [show ((0 : Nat) : Int) = 0 from rfl] at em
  unfold fX13_buys
  simp (disch := omega) only [xlet, xjoin, xnz_b0, xnz_b1, xnz_b, xcall_s, i_lit, i_add, i_sub, i_mul, i_neg, m_in, m_fails, r4.1, em, b_zero, decide_eq_false_iff_not]
  refine ⟨fun h0 => ?_, fun h0 => ?_⟩
  · by_cases h1 : 1 ≤ k ∧ k ≤ 20
    · rw [if_neg (fun c => c h1), if_pos (by omega)]
    · rw [if_pos h1]
  · have m0 : 0 ≤ k * p := Int.mul_nonneg (by omega) (by omega)
    have m1 : k * p ≤ 20 * 40 := Int.mul_le_mul (by omega) (by omega) (by omega) (by omega)
    rw [if_neg (fun c => c h0.1), if_neg (fun c => c h0.2)]
    refine ⟨fun h1 => ?_, fun h1 => ?_⟩
    · rw [h1, if_pos (show iI ((8 : Nat) : Int) = iI 8 from rfl)]
    · rw [if_neg (by rw [i_eq (by omega) (by omega) (by omega) (by omega)]; omega)]
      refine ⟨fun h2 => ?_, fun h2 => ?_⟩
      · rw [if_neg (by rw [i_le (by omega) (by omega) (by omega) (by omega)]; omega)]
      · rw [if_pos (by rw [i_le (by omega) (by omega) (by omega) (by omega)]; omega)]
        simp (disch := omega) only [xrd_ln, upd_ne, r4.1, i_add]
        have hG : GG (upd (upd (upd s.1 (193 + (gL S).length) (iI k)) (201 + (gL S).length) (iI p)) 5 (iI (((gL S).length : Int) + 1))) (wL S (gL S ++ [(k, p)])) := by
          refine h.L w ⟨?_, fun j x hx => ?_⟩ fun k h3 h4 => ?_
          · rw [upd_eq, List.length_append]; rfl
          · have hj := lt_len hx
            simp only [List.length_append, List.length_cons, List.length_nil] at hj
            by_cases e9 : j < (gL S).length
            · rw [List.getElem?_append_left e9] at hx
              simp (disch := omega) only [upd_ne]
              exact r4.2 j x hx
            · have e9 : j = (gL S).length := by omega
              subst e9
              simp at hx
              subst hx
              simp (disch := omega) only [upd_ne, upd_eq]
              exact ⟨by trivial, by trivial⟩
          · simp (disch := omega) only [upd_ne]
        have hW := wL_W w (L := gL S ++ [(k, p)]) ⟨by rw [List.length_append]; show (gL S).length + 1 ≤ 8; omega, fun x hx => by
          rcases List.mem_append.mp hx with h9 | h9
          · exact w.2.2.2.1.2 x h9
          · simp at h9; subst h9; simp only; omega⟩
        obtain ⟨g', d1, d2⟩ := m_ent (s := Ms0 s (upd (upd (upd s.1 (193 + (gL S).length) (iI k)) (201 + (gL S).length) (iI p)) 5 (iI (((gL S).length : Int) + 1)))) hN hG hW (d := 1) (c := 0) (by show 1 < aN (gA S); omega) (by show 0 < aN (gA S); omega) (k * p) 0
        rw [show iI ((1 : Nat) : Int) = iI 1 from rfl, show iI ((0 : Nat) : Int) = iI 0 from rfl] at d1
        refine ⟨g', ?_, d2⟩
        rw [d1, xcall_s, m_done, xcall_s]
theorem m_sells {N : Nat} (hN : 2000 ≤ N) (h : GG s.1 S) (w : WG S) {k p : Int} (w2 : WG (sEnt (wL S (sTake k (gL S))) 0 4 (k * p) 0)) (hk : -2147483648 ≤ k ∧ k < 2147483648) (hp : -2147483648 ≤ p ∧ p < 2147483648) : (¬ ((1 ≤ k ∧ k ≤ 20) ∧ (1 ≤ p ∧ p ≤ 40)) → fX13_sells N (iI k) (iI p) s = some (iI 0, Ms12 s (iI 1))) ∧ ((1 ≤ k ∧ k ≤ 20) ∧ (1 ≤ p ∧ p ≤ 40) → (lSum (gL S) < k → fX13_sells N (iI k) (iI p) s = some (iI 0, Ms12 s (iI 2))) ∧ (k ≤ lSum (gL S) → ∃ g', fX13_sells N (iI k) (iI p) s = some (iI (sCost k (gL S)), Ms12 (Ms0 s g') (iI 0)) ∧ GG g' (sSell S k p))) := by
  have hn := w.1.1
  obtain ⟨f1, f2, f3, f4⟩ := w.fr
  have r4 := h.2.2.2.1
  have wl := w.2.2.2.1
  have hs := lSum_rng wl
  unfold fX13_sells
  rw [m_costumes hN r4 f3]
  simp (disch := omega) only [xlet, xjoin, xnz_b0, xnz_b1, xnz_b, xcall_s, i_lit, i_add, i_sub, i_mul, i_neg, m_in, m_fails, i_le, i_lt, i_eq, l_cmp0, l_cmplt, l_cmpgt, l_cmple, l_cmpge, b_zero, b_one, decide_eq_false_iff_not, decide_eq_true_eq]
  refine ⟨fun h0 => ?_, fun h0 => ?_⟩
  · by_cases h1 : 1 ≤ k ∧ k ≤ 20
    · rw [if_neg (fun c => c h1), if_pos (by omega)]
    · rw [if_pos h1]
  · rw [if_neg (fun c => c h0.1), if_neg (fun c => c h0.2)]
    refine ⟨fun h1 => ?_, fun h1 => ?_⟩
    · rw [if_neg (by omega)]
    · rw [if_pos h1, m_costOfFirst hN r4 wl (by omega), xcall_s]
      obtain ⟨q, rfl⟩ := Int.eq_ofNat_of_zero_le (show 0 ≤ k by omega)
      obtain ⟨g1, d1, d2, d3⟩ := m_sellLoop hN (fun (v1_10 : Int32) (v2_10 : Int32) (v3_10 : Int32) (s0_10 : MS) => xcall (fX13_enters N (iI 0) (iI 4) (v1_10 * v2_10) (iI 0) s0_10) fun q11 => xcall (fX13_enters N (iI 5) (iI 1) v3_10 (iI 0) q11.2) fun q12 => xcall (fX13_done N v3_10 q12.2) fun q13 => some (q13.1, q13.2)) (iI (q : Int)) (iI p) (iI (sCost q (gL S))) r4 wl h1 (by omega)
      have hG : GG g1 (wL S (sTake q (gL S))) := h.L w d2 d3
      have hW := wL_W w (sTake_W wl (q : Int) (by omega)).1
      obtain ⟨g2, e1, e2⟩ := m_ent (s := Ms0 s g1) hN hG hW (d := 0) (c := 4) (by show 0 < aN (gA S); omega) (by show 4 < aN (gA S); omega) (q * p) 0
      obtain ⟨g3, e3, e4⟩ := m_ent (s := Ms0 (Ms0 s g1) g2) hN e2 w2 (d := 5) (c := 1) (by show 5 < aN (gA S); omega) (by show 1 < aN (gA S); omega) (sCost q (gL S)) 0
      rw [show iI ((0 : Nat) : Int) = iI 0 from rfl, show iI ((4 : Nat) : Int) = iI 4 from rfl] at e1
      rw [show iI ((5 : Nat) : Int) = iI 5 from rfl, show iI ((1 : Nat) : Int) = iI 1 from rfl] at e3
      refine ⟨g3, ?_, e4⟩
      rw [d1, i_mul, e1, xcall_s, e3, xcall_s, m_done, xcall_s]
theorem m_writesBill {N : Nat} (hN : 2000 ≤ N) (h : GG s.1 S) (w : WG S) (hb2 : (gB S).2 + 1 < 1000000) {m : Int} (hm : -2147483648 ≤ m ∧ m < 2147483648) : (¬ (1 ≤ m ∧ m ≤ 999) → fX13_writesBill N (iI m) s = some (iI 0, Ms12 s (iI 1))) ∧ (1 ≤ m ∧ m ≤ 999 → ((gB S).1.length = 10 → fX13_writesBill N (iI m) s = some (iI 0, Ms12 s (iI 2))) ∧ ((gB S).1.length < 10 → ∃ g', fX13_writesBill N (iI m) s = some (iI ((gB S).2 : Int), Ms12 (Ms0 s g') (iI 0)) ∧ GG g' (sBill S m))) := by
  have hn := w.1.1
  obtain ⟨f1, f2, f3, f4⟩ := w.fr
  have r5 := h.2.2.2.2.1
  have wb := w.2.2.2.2.1
  unfold fX13_writesBill
  simp (disch := omega) only [xlet, xjoin, xnz_b0, xnz_b1, xnz_b, xcall_s, i_lit, i_add, i_sub, i_mul, i_neg, m_in, m_fails, r5.1, b_zero, decide_eq_false_iff_not]
  refine ⟨fun h0 => ?_, fun h0 => ?_⟩
  · rw [if_pos h0]
  · rw [if_neg (fun c => c h0)]
    refine ⟨fun h1 => ?_, fun h1 => ?_⟩
    · rw [h1, if_pos (show iI ((10 : Nat) : Int) = iI 10 from rfl)]
    · rw [if_neg (by rw [i_eq (by omega) (by omega) (by omega) (by omega)]; omega)]
      simp (disch := omega) only [xrd_ln, upd_ne, r5.1, r5.2.1, i_add]
      have hG : GG (upd (upd (upd (upd s.1 (209 + (gB S).1.length) (iI ((gB S).2 : Int))) (219 + (gB S).1.length) (iI m)) 6 (iI (((gB S).1.length : Int) + 1))) 7 (iI (((gB S).2 : Int) + 1))) (wB S ((gB S).1 ++ [(((gB S).2 : Int), m)], (gB S).2 + 1)) := by
        refine h.B w ⟨?_, ?_, fun j x hx => ?_⟩ fun k h3 h4 h5 => ?_
        · rw [upd_ne (by omega), upd_eq]
          show _ = iI ((((gB S).1 ++ [(((gB S).2 : Int), m)]).length : Nat) : Int)
          rw [List.length_append]; rfl
        · rw [upd_eq]; rfl
        · have hj := lt_len hx
          have hx : ((gB S).1 ++ [(((gB S).2 : Int), m)])[j]? = some x := hx
          have hj : j < ((gB S).1 ++ [(((gB S).2 : Int), m)]).length := hj
          simp only [List.length_append, List.length_cons, List.length_nil] at hj
          by_cases e9 : j < (gB S).1.length
          · rw [List.getElem?_append_left e9] at hx
            simp (disch := omega) only [upd_ne]
            exact r5.2.2 j x hx
          · have e9 : j = (gB S).1.length := by omega
            subst e9
            simp at hx
            subst hx
            simp (disch := omega) only [upd_ne, upd_eq]
            exact ⟨by trivial, by trivial⟩
        · simp (disch := omega) only [upd_ne]
      have hW := wB_W w (B := ((gB S).1 ++ [(((gB S).2 : Int), m)], (gB S).2 + 1)) ⟨by rw [List.length_append]; show (gB S).1.length + 1 ≤ 10; omega, hb2, fun x hx => by
        rcases List.mem_append.mp hx with h9 | h9
        · have := wb.2.2 x h9
          show 0 ≤ x.1 ∧ x.1 < (((gB S).2 + 1 : Nat) : Int) ∧ _
          omega
        · simp at h9; subst h9; simp only; omega⟩
      obtain ⟨g', d1, d2⟩ := m_ent (s := Ms0 s (upd (upd (upd (upd s.1 (209 + (gB S).1.length) (iI ((gB S).2 : Int))) (219 + (gB S).1.length) (iI m)) 6 (iI (((gB S).1.length : Int) + 1))) 7 (iI (((gB S).2 : Int) + 1)))) hN hG hW (d := 2) (c := 4) (by show 2 < aN (gA S); omega) (by show 4 < aN (gA S); omega) m 0
      rw [show iI ((2 : Nat) : Int) = iI 2 from rfl, show iI ((4 : Nat) : Int) = iI 4 from rfl] at d1
      have e7 : g' 7 = iI (((gB S).2 + 1 : Nat) : Int) := d2.2.2.2.2.1.2.1
      refine ⟨g', ?_, d2⟩
      rw [d1, xcall_s]
      show xcall (fX13_done N (g' 7 - iI 1) (Ms0 s g')) _ = _
      rw [e7, m_done, xcall_s, i_sub, show (((gB S).2 + 1 : Nat) : Int) - 1 = ((gB S).2 : Int) by omega]
theorem m_pays {N : Nat} (hN : 2000 ≤ N) (h : GG s.1 S) (w : WG S) {m : Int} (hm : -2147483648 ≤ m ∧ m < 2147483648) : (¬ (1 ≤ m ∧ m ≤ 999) → fX13_pays N (iI m) s = some (iI 0, Ms12 s (iI 1))) ∧ (1 ≤ m ∧ m ≤ 999 → (bSum (gB S).1 < m → fX13_pays N (iI m) s = some (iI 0, Ms12 s (iI 2))) ∧ (m ≤ bSum (gB S).1 → ∃ g', fX13_pays N (iI m) s = some (iI (((gB S).1.length : Int) - (payB S m).length), Ms12 (Ms0 s g') (iI 0)) ∧ GG g' (sPay S m))) := by
  have hn := w.1.1
  obtain ⟨f1, f2, f3, f4⟩ := w.fr
  have r5 := h.2.2.2.2.1
  have wb := w.2.2.2.2.1
  have hsm := wb.sum
  have hlt := choN_lt m (gB S).1 (2 ^ (gB S).1.length)
  have hp2 := two_pow_10 wb.1
  have hch : chS S m < 1024 := by unfold chS; omega
  unfold fX13_pays
  rw [m_owed hN r5 wb]
  simp (disch := omega) only [xlet, xjoin, xnz_b0, xnz_b1, xnz_b, xcall_s, i_lit, i_add, i_sub, i_mul, i_neg, m_in, m_fails, i_le, i_lt, i_eq, l_cmp0, l_cmplt, l_cmpgt, l_cmple, l_cmpge, b_zero, b_one, decide_eq_false_iff_not, decide_eq_true_eq]
  refine ⟨fun h0 => ?_, fun h0 => ?_⟩
  · rw [if_pos h0]
  · rw [if_neg (fun c => c h0)]
    refine ⟨fun h1 => ?_, fun h1 => ?_⟩
    · rw [if_neg (by omega)]
    · rw [if_pos h1, m_chosen hN r5 wb h0, xcall_s]
      have e0 : choN m (gB S).1 (2 ^ (gB S).1.length) = chS S m := rfl
      rw [e0]
      have hWB : WB (payB S m, (gB S).2) := by
        unfold payB
        split
        · have hs := fltI_sub 0 (ordP m (gB S).1) 0
          refine ⟨by have := ordP_len (gB S).1 m; show (fltI 0 0 (ordP m (gB S).1)).length ≤ 10; omega, wb.2.1, fun x hx => ?_⟩
          obtain ⟨y1, y2⟩ := hs.2 x hx
          obtain ⟨z, z1, z2⟩ := ordP_mem (gB S).1 m (by omega) (fun y hy => by have := wb.2.2 y hy; omega) x y1
          have := wb.2.2 z z1
          show 0 ≤ x.1 ∧ x.1 < ((gB S).2 : Int) ∧ _
          omega
        · have hs := fltI_sub (chS S m) (gB S).1 0
          refine ⟨by show (fltI (chS S m) 0 (gB S).1).length ≤ 10; omega, wb.2.1, fun x hx => ?_⟩
          exact wb.2.2 x (hs.2 x hx).1
      have hlast : ∀ (g1 : Nat → Int32) (L : List (Int × Int)) (T : Nat), T < 1024 → GB g1 (L, (gB S).2) → L.length = (gB S).1.length → (∀ x ∈ L, 0 ≤ x.2 ∧ x.2 ≤ 999) → (∀ k, k < 209 → g1 k = s.1 k) → fltI T 0 L = payB S m → ∃ g', fX13_pays_L52 N (fun (v1_7 : Int32) (v3_7 : Int32) (s0_7 : MS) => xcall (fX13_enters N (iI 0) (iI 2) v1_7 (iI 0) s0_7) fun q8 => xcall (fX13_done N v3_7 q8.2) fun q9 => some (q9.1, q9.2)) N (iI m) (iI (T : Int)) (iI 0) (iI 9) (Ms0 s g1) = some (iI (((gB S).1.length : Int) - (payB S m).length), Ms12 (Ms0 s g') (iI 0)) ∧ GG g' (sPay S m) := by
        intro g1 L T hT hg1 hlen hL hfr hpay
        obtain ⟨g2, d1, d2, d3⟩ := m_paysLoop (s := Ms0 s g1) hN (fun (v1_7 : Int32) (v3_7 : Int32) (s0_7 : MS) => xcall (fX13_enters N (iI 0) (iI 2) v1_7 (iI 0) s0_7) fun q8 => xcall (fX13_done N v3_7 q8.2) fun q9 => some (q9.1, q9.2)) (iI m) hT hg1 (by omega) hL
        rw [hpay] at d1 d2
        have hG : GG g2 (wB S (payB S m, (gB S).2)) := h.B w d2 fun k h3 h4 h5 => by
          rw [d3 k h3 h5]
          exact hfr k h5
        obtain ⟨g3, e1, e2⟩ := m_ent (s := Ms0 (Ms0 s g1) g2) hN hG (wB_W w hWB) (d := 0) (c := 2) (by show 0 < aN (gA S); omega) (by show 2 < aN (gA S); omega) m 0
        rw [show iI ((0 : Nat) : Int) = iI 0 from rfl, show iI ((2 : Nat) : Int) = iI 2 from rfl] at e1
        refine ⟨g3, ?_, e2⟩
        rw [d1, e1, xcall_s, m_done, xcall_s, hlen]
      by_cases hc : chS S m = 0
      · obtain ⟨g1, d1, d2, d3⟩ := m_paysInOrder hN r5 wb (k := m) (by omega)
        rw [hc, if_pos (show iI ((0 : Nat) : Int) = iI 0 from rfl), d1, xcall_s]
        refine hlast g1 (ordP m (gB S).1) 0 (by decide) d2 (ordP_len _ _) (fun x hx => ?_) (fun k hk => d3 k (by omega)) ?_
        · obtain ⟨z, z1, z2⟩ := ordP_mem (gB S).1 m (by omega) (fun y hy => by have := wb.2.2 y hy; omega) x hx
          have := wb.2.2 z z1
          omega
        · unfold payB
          rw [if_pos hc]
      · rw [if_neg (by rw [i_eq (by omega) (by omega) (by omega) (by omega)]; omega)]
        exact hlast s.1 (gB S).1 (chS S m) hch r5 rfl (fun x hx => by have := wb.2.2 x hx; omega) (fun k hk => rfl) (by unfold payB; rw [if_neg hc])
end MR
