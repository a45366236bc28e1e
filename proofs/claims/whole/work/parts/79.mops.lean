/-! ===== changes: the reference ===== -/
section MO
variable {s : MS} {S : SG}
theorem m_why (N : Nat) (h : GG s.1 S) (w : WG S) {d c m : Int} (hd : -2147483648 ≤ d ∧ d < 2147483648) (hc : -2147483648 ≤ c ∧ c < 2147483648) (hm : -2147483648 ≤ m ∧ m < 2147483648) : fX13_whyNoEntry N (iI d) (iI c) (iI m) s = some (iI (whyE (aN (gA S)) d c m : Int)) := by
  have hn := w.1.2.1
  unfold fX13_whyNoEntry
  rw [m_isAccount N h.1 hn hd, m_isAccount N h.1 hn hc]
  simp (disch := omega) only [xlet, xjoin, xnz_b0, xnz_b1, xnz_b, xcall_s, i_lit, i_add, i_sub, i_mul, i_neg, i_le, i_lt, i_eq, l_cmp0, l_cmplt, l_cmpgt, l_cmple, l_cmpge, b_zero, b_one, decide_eq_false_iff_not, decide_eq_true_eq, m_in]
  unfold whyE
  by_cases h1 : 0 ≤ d ∧ d < aN (gA S)
  · by_cases h2 : 0 ≤ c ∧ c < aN (gA S)
    · by_cases h3 : d = c
      · simp only [h1, h2, h3, and_self, not_true_eq_false, if_false, or_self, true_or, if_true]; rfl
      · by_cases h4 : 1 ≤ m ∧ m ≤ 999
        · simp only [h1, h2, h3, h4, and_self, not_true_eq_false, if_false, or_self]; rfl
        · simp only [h1, h2, h3, h4, and_self, not_true_eq_false, if_false, or_self, not_false_eq_true, if_true, or_true]; rfl
    · simp only [h1, h2, and_self, not_true_eq_false, if_false, not_false_eq_true, if_true, or_true]; rfl
  · simp only [h1, not_false_eq_true, if_true, true_or]; rfl
theorem whyE_le (n : Nat) (d c m : Int) : whyE n d c m ≤ 2 := by
  unfold whyE
  split
  · omega
  · split <;> omega
theorem m_posts {N : Nat} (hN : 2000 ≤ N) (h : GG s.1 S) (w : WG S) {d c m : Int} (hd : -2147483648 ≤ d ∧ d < 2147483648) (hc : -2147483648 ≤ c ∧ c < 2147483648) (hm : -2147483648 ≤ m ∧ m < 2147483648) : (whyE (aN (gA S)) d c m ≠ 0 → fX13_posts N (iI d) (iI c) (iI m) s = some (iI 0, Ms12 s (iI (whyE (aN (gA S)) d c m : Int)))) ∧ (whyE (aN (gA S)) d c m = 0 → ∃ g', fX13_posts N (iI d) (iI c) (iI m) s = some (iI (jN (gJ S) : Int), Ms12 (Ms0 s g') (iI 0)) ∧ GG g' (sEnt S d.toNat c.toNat m 0)) := by
  have hw := m_why N h w hd hc hm
  have hle := whyE_le (aN (gA S)) d c m
  unfold fX13_posts
  rw [hw, xcall_s]
  unfold xjoin
  dsimp only
  constructor
  · intro h0
    rw [i_lit, if_neg (by rw [i_le (by omega) (by omega) (by omega) (by omega)]; omega), m_fails, xcall_s]
  · intro h0
    have h9 : 0 ≤ d ∧ d < aN (gA S) ∧ 0 ≤ c ∧ c < aN (gA S) := by
      unfold whyE at h0
      by_cases h1 : ¬ (0 ≤ d ∧ d < aN (gA S)) ∨ ¬ (0 ≤ c ∧ c < aN (gA S))
      · rw [if_pos h1] at h0; omega
      · omega
    obtain ⟨d, rfl⟩ := Int.eq_ofNat_of_zero_le h9.1
    obtain ⟨c, rfl⟩ := Int.eq_ofNat_of_zero_le h9.2.2.1
    obtain ⟨g', d1, d2⟩ := m_ent hN h w (d := d) (c := c) (by omega) (by omega) m 0
    refine ⟨g', ?_, d2⟩
    rw [h0, i_lit]
    rw [if_pos (by decide), d1, xcall_s, m_done, xcall_s]
theorem m_placeOf (N : Nat) (h : GG s.1 S) (w : WG S) {z : Int} (hz : -2147483648 ≤ z ∧ z < 2147483648) : fX13_placeOf N (iI z) s = some (iI (if (jN (gJ S) : Int) - jK (gJ S) ≤ z ∧ z < jN (gJ S) then z - ((jN (gJ S) : Int) - jK (gJ S)) else -1)) := by
  have hj := w.2.1.1
  have hk := jK_le (gJ S)
  unfold fX13_placeOf
  rw [h.2.1.1, h.2.1.2.1]
  simp (disch := omega) only [xlet, xjoin, xnz_b0, xnz_b1, xnz_b, xcall_s, i_lit, i_add, i_sub, i_mul, i_neg, m_in, i_le, i_lt, i_eq, l_cmp0, l_cmplt, l_cmpgt, l_cmple, l_cmpge, b_zero, b_one, decide_eq_false_iff_not, decide_eq_true_eq]
  by_cases h1 : (jN (gJ S) : Int) - jK (gJ S) ≤ z ∧ z < jN (gJ S)
  · rw [if_pos h1, if_neg (by omega)]
  · rw [if_neg h1, if_pos (by omega)]
theorem GG.mark {g : Nat → Int32} (h : GG g S) (w : WG S) {j : Nat} (hj : j < jK (gJ S)) : GG (upd g (137 + j) (iI 1)) (wJ S (sMark (gJ S) (jN (gJ S) - jK (gJ S) + j) 1)) := by
  have hk := jK_le (gJ S)
  obtain ⟨f1, f2, f3, f4⟩ := w.fr
  obtain ⟨r1, r2, r3, r4, r5, r6, r7⟩ := h
  refine ⟨r1.of f1 fun k hk => upd_ne (by omega), ⟨?_, ?_, fun i hi => ?_⟩, r3.of f2 fun k hk => upd_ne (by omega), r4.of f3 fun k hk => upd_ne (by omega), r5.of f4 fun k hk => upd_ne (by omega), by rw [upd_ne (by omega)]; exact r6, by rw [upd_ne (by omega)]; exact r7⟩
  · rw [upd_ne (by omega)]; exact r2.1
  · rw [upd_ne (by omega)]; exact r2.2.1
  · have hi : i < jK (gJ S) := hi
    have q := r2.2.2 i hi
    show upd g (137 + j) (iI 1) (57 + i) = iI (jD (gJ S) (jN (gJ S) - jK (gJ S) + i)) ∧ upd g (137 + j) (iI 1) (77 + i) = iI (jC (gJ S) (jN (gJ S) - jK (gJ S) + i)) ∧ upd g (137 + j) (iI 1) (97 + i) = iI (jA (gJ S) (jN (gJ S) - jK (gJ S) + i)) ∧ upd g (137 + j) (iI 1) (117 + i) = iI (jH (gJ S) (jN (gJ S) - jK (gJ S) + i)) ∧ upd g (137 + j) (iI 1) (137 + i) = iI (updI (jM (gJ S)) (jN (gJ S) - jK (gJ S) + j) 1 (jN (gJ S) - jK (gJ S) + i))
    rw [upd_ne (by omega), upd_ne (by omega), upd_ne (by omega), upd_ne (by omega)]
    refine ⟨q.1, q.2.1, q.2.2.1, q.2.2.2.1, ?_⟩
    by_cases e : i = j
    · subst e; rw [upd_eq, updI_eq]
    · rw [upd_ne (by omega), updI_ne (by omega)]; exact q.2.2.2.2
theorem m_reverses {N : Nat} (hN : 2000 ≤ N) (h : GG s.1 S) (w : WG S) {z : Int} (hz : -2147483648 ≤ z ∧ z < 2147483648) : (¬ ((jN (gJ S) : Int) - jK (gJ S) ≤ z ∧ z < jN (gJ S)) → fX13_reverses N (iI z) s = some (iI 0, Ms12 s (iI 1))) ∧ ((jN (gJ S) : Int) - jK (gJ S) ≤ z ∧ z < jN (gJ S) → (jM (gJ S) z.toNat ≠ 0 → fX13_reverses N (iI z) s = some (iI 0, Ms12 s (iI 2))) ∧ (jM (gJ S) z.toNat = 0 → ∃ g', fX13_reverses N (iI z) s = some (iI (jN (gJ S) : Int), Ms12 (Ms0 s g') (iI 0)) ∧ GG g' (sRev S z.toNat))) := by
  have hj := w.2.1.1
  have hk := jK_le (gJ S)
  have hk2 : jK (gJ S) ≤ jN (gJ S) := by unfold jK; omega
  unfold fX13_reverses
  rw [m_placeOf N h w hz, xcall_s]
  refine ⟨fun h1 => ?_, fun h1 => ?_⟩
  · rw [if_neg h1]
    simp only [xlet, xjoin, xnz_b0, xnz_b1, xnz_b, xcall_s, i_lit, i_add, i_sub, i_mul, i_neg, m_fails]
    rw [if_pos trivial]
  · rw [if_pos h1]
    obtain ⟨e, rfl⟩ := Int.eq_ofNat_of_zero_le (show 0 ≤ z by omega)
    obtain ⟨j, hj9⟩ : ∃ j, e = jN (gJ S) - jK (gJ S) + j := ⟨e - (jN (gJ S) - jK (gJ S)), by omega⟩
    have ej : (e : Int) - ((jN (gJ S) : Int) - jK (gJ S)) = (j : Int) := by omega
    have q := h.2.1.2.2 j (by omega)
    rw [← hj9] at q
    have r := w.2.1.2 e (by omega) (by omega)
    rw [ej, Int.toNat_natCast]
    refine ⟨fun h2 => ?_, fun h2 => ?_⟩
    · simp (disch := omega) only [xlet, xjoin, xnz_b0, xnz_b1, xnz_b, xcall_s, i_lit, i_add, xrd_ln, q.2.2.2.2, i_lit, i_add, i_sub, i_mul, i_neg, i_le, i_lt, i_eq, l_cmp0, l_cmplt, l_cmpgt, l_cmple, l_cmpge, b_zero, b_one, decide_eq_false_iff_not, decide_eq_true_eq, m_fails]
      rw [if_neg (by omega), if_neg h2]
    · have hm := h.mark w (j := j) (by omega)
      rw [← hj9] at hm
      have hw2 := (mark_W w (e := e) (by omega) (by omega)).1
      obtain ⟨d, hd⟩ := Int.eq_ofNat_of_zero_le r.1
      obtain ⟨c, hc⟩ := Int.eq_ofNat_of_zero_le r.2.2.1
      obtain ⟨g', d1, d2⟩ := m_ent (s := Ms0 s (upd s.1 (137 + j) (iI 1))) hN hm hw2 (d := c) (c := d) (by show c < aN (gA S); omega) (by show d < aN (gA S); omega) (jA (gJ S) e) 2
      refine ⟨g', ?_, ?_⟩
      · simp (disch := omega) only [xlet, xjoin, xnz_b0, xnz_b1, xnz_b, xcall_s, i_lit, i_add, xrd_ln, q.2.2.2.2, i_lit, i_add, i_sub, i_mul, i_neg, i_le, i_lt, i_eq, l_cmp0, l_cmplt, l_cmpgt, l_cmple, l_cmpge, b_zero, b_one, decide_eq_false_iff_not, decide_eq_true_eq, upd_ne, q.1, q.2.1, q.2.2.1]
        rw [if_neg (by omega), if_pos h2, hd, hc, d1, xcall_s, m_done, xcall_s]
        rfl
      · unfold sRev
        rw [hd, hc]
        exact d2
theorem m_prompts {N : Nat} (h : GG s.1 S) (w : WG S) {d c m e t : Int} (hd : -2147483648 ≤ d ∧ d < 2147483648) (hc : -2147483648 ≤ c ∧ c < 2147483648) (hm : -2147483648 ≤ m ∧ m < 2147483648) (he : -2147483648 ≤ e ∧ e < 2147483648) (ht : -2147483648 ≤ t ∧ t < 2147483648) : (whyE (aN (gA S)) d c m ≠ 0 → fX13_prompts N (iI d) (iI c) (iI m) (iI e) (iI t) s = some (iI 0, Ms12 s (iI (whyE (aN (gA S)) d c m : Int)))) ∧ (whyE (aN (gA S)) d c m = 0 → (¬ ((1 ≤ e ∧ e ≤ 12) ∧ (1 ≤ t ∧ t ≤ 9)) → fX13_prompts N (iI d) (iI c) (iI m) (iI e) (iI t) s = some (iI 0, Ms12 s (iI 2))) ∧ ((1 ≤ e ∧ e ≤ 12) ∧ (1 ≤ t ∧ t ≤ 9) → (6 ≤ (gP S).length → fX13_prompts N (iI d) (iI c) (iI m) (iI e) (iI t) s = some (iI 0, Ms12 s (iI 3))) ∧ ((gP S).length < 6 → ∃ g', fX13_prompts N (iI d) (iI c) (iI m) (iI e) (iI t) s = some (iI ((gP S).length : Int), Ms12 (Ms0 s g') (iI 0)) ∧ GG g' (wP S (gP S ++ [(d, c, m, e, t, e)]))))) := by
  have hw := m_why N h w hd hc hm
  have hle := whyE_le (aN (gA S)) d c m
  obtain ⟨f1, f2, f3, f4⟩ := w.fr
  obtain ⟨r1, r2, r3, r4, r5, r6, r7⟩ := h
  unfold fX13_prompts
  rw [hw, xcall_s]
  refine ⟨fun h0 => ?_, fun h0 => ?_⟩
  · rw [i_lit, if_neg (by rw [i_le (by omega) (by omega) (by omega) (by omega)]; omega), m_fails, xcall_s]
  · rw [h0]
    simp (disch := omega) only [xlet, xjoin, xnz_b0, xnz_b1, xnz_b, xcall_s, i_lit, i_add, i_sub, i_mul, i_neg, i_le, i_lt, i_eq, l_cmp0, l_cmplt, l_cmpgt, l_cmple, l_cmpge, b_zero, b_one, decide_eq_false_iff_not, decide_eq_true_eq, m_in, m_fails, r3.1]
    rw [if_pos (by omega)]
    refine ⟨fun h1 => ?_, fun h1 => ?_⟩
    · by_cases h2 : 1 ≤ e ∧ e ≤ 12
      · rw [if_neg (by omega), if_pos (by omega)]
      · rw [if_pos (by omega)]
    · rw [if_neg (by omega), if_neg (by omega)]
      refine ⟨fun h2 => ?_, fun h2 => ?_⟩
      · rw [if_pos (by omega)]
      · rw [if_neg (by omega)]
        simp (disch := omega) only [xrd_ln, upd_ne, upd_eq, r3.1, r6, m_done, xcall_s, Ms0, Ms1, Ms2, Ms3, Ms4, Ms5, Ms6, Ms7, Ms8, Ms9, Ms10, Ms11, Ms12, Ms13, Ms14, Ms15, i_lit, i_add, i_sub, i_mul, i_neg]
        refine ⟨_, rfl, r1.of f1 fun k hk => ?_, r2.of fun k hk => ?_, ⟨?_, fun j x hx => ?_⟩, r4.of f3 fun k hk => ?_, r5.of f4 fun k hk => ?_, ?_, ?_⟩
        · simp (disch := omega) only [upd_ne]
        · simp (disch := omega) only [upd_ne]
        · simp (disch := omega) only [upd_ne, upd_eq]
          show _ = iI (((gP S ++ [(d, c, m, e, t, e)]).length : Nat) : Int)
          rw [List.length_append]
          rfl
        · have hj := lt_len hx
          have hx : (gP S ++ [(d, c, m, e, t, e)])[j]? = some x := hx
          have hj : j < (gP S ++ [(d, c, m, e, t, e)]).length := hj
          simp only [List.length_append, List.length_cons, List.length_nil] at hj
          by_cases e9 : j < (gP S).length
          · rw [List.getElem?_append_left e9] at hx
            simp (disch := omega) only [upd_ne]
            exact r3.2 j x hx
          · have e9 : j = (gP S).length := by omega
            subst e9
            simp at hx
            subst hx
            simp (disch := omega) only [upd_ne, upd_eq]
            refine ⟨by trivial, by trivial, by trivial, by trivial, by trivial, ?_⟩
            congr 1
            show (gH S : Int) = (gH S : Int) + e - e
            omega
        · simp (disch := omega) only [upd_ne]
        · simp (disch := omega) only [upd_ne]
        · simp (disch := omega) only [upd_ne]
          exact r6
        · simp (disch := omega) only [upd_ne]
          exact r7
end MO
