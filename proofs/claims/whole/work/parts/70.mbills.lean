/-! ===== the reference's bills ===== -/
theorem bit_tI {k T : Nat} (hk : k < 31) (hT : T < 2147483648) : ((iI (T : Int)) >>> ((iI (k : Int)) &&& iI 31)) &&& iI 1 = iB (T.testBit k) := bit_tst hk hT
section MB
variable {s : MS} {B : SB}
theorem m_owed {N : Nat} (hN : 2000 ≤ N) (h : GB s.1 B) (w : WB B) : fX13_owed N s = some (iI (bSum B.1)) := by
  have hl := w.1
  unfold fX13_owed xjoin
  refine loopP (F := fun n (z : Int) i => fX13_owed_L4 N s _ n (iI z) (iI (i : Int))) (I := fun z i => z + bSum (B.1.drop i) = bSum B.1) (m := B.1.length) (P := fun r => r = _) ?_ ?_ N 0 0 (by omega) (by omega) (by simp)
  · intro n z i hi hz
    obtain ⟨x, hx, hd, -⟩ := drop_at hi
    refine .inr ⟨z + x.2, ?_, by rw [← hz, hd, bSum]; omega⟩
    simp (disch := omega) only [fX13_owed_L4, h.1, xlet, xjoin, xnz_b0, xnz_b1, xnz_b, xcall_s, i_lit, i_add, xrd_ln, (h.2.2 i x hx).2, i_lit, i_add, i_sub, i_mul, i_neg, i_le, i_lt, i_eq, l_cmp0, l_cmplt, l_cmpgt, l_cmple, l_cmpge, b_zero, b_one, decide_eq_false_iff_not, decide_eq_true_eq, i_succ]
    rw [if_neg (by omega)]
  · intro n z hz
    rw [List.drop_eq_nil_of_le (Nat.le_refl _), bSum, Int.add_zero] at hz
    simp (disch := omega) only [fX13_owed_L4, h.1, i_le, i_lt, i_eq, l_cmp0, l_cmplt, l_cmpgt, l_cmple, l_cmpge, b_zero, b_one, decide_eq_false_iff_not, decide_eq_true_eq, hz]
    rw [if_pos (by omega)]
theorem m_billPlace {N : Nat} (hN : 2000 ≤ N) (h : GB s.1 B) (w : WB B) {z : Int} (hz : -2147483648 ≤ z ∧ z < 2147483648) : fX13_billPlace N (iI z) s = some (iI (plcI z B.1)) := by
  have hl := w.1
  have hl2 := w.2.1
  unfold fX13_billPlace xjoin
  refine loopP (F := fun n (_ : Unit) i => fX13_billPlace_L2 N s _ n (iI z) (iI (i : Int))) (I := fun _ i => plc z B.1 = (plc z (B.1.drop i)).map (· + i)) (m := B.1.length) (P := fun r => r = _) ?_ ?_ N 0 () (by omega) (by omega) (by simp)
  · intro n _ i hi hI
    obtain ⟨x, hx, hd, hm⟩ := drop_at hi
    obtain ⟨p1, p2⟩ := plc_drop hI hd rfl
    have q := w.2.2 x hm
    by_cases e : x.1 = z
    · left
      simp (disch := omega) only [fX13_billPlace_L2, h.1, xlet, xjoin, xnz_b0, xnz_b1, xnz_b, xcall_s, i_lit, i_add, xrd_ln, (h.2.2 i x hx).1, i_lit, i_add, i_sub, i_mul, i_neg, i_le, i_lt, i_eq, l_cmp0, l_cmplt, l_cmpgt, l_cmple, l_cmpge, b_zero, b_one, decide_eq_false_iff_not, decide_eq_true_eq, i_succ]
      rw [if_neg (by omega), if_pos e]
      unfold plcI
      rw [p1 e]
    · refine .inr ⟨(), ?_, p2 e⟩
      simp (disch := omega) only [fX13_billPlace_L2, h.1, xlet, xjoin, xnz_b0, xnz_b1, xnz_b, xcall_s, i_lit, i_add, xrd_ln, (h.2.2 i x hx).1, i_lit, i_add, i_sub, i_mul, i_neg, i_le, i_lt, i_eq, l_cmp0, l_cmplt, l_cmpgt, l_cmple, l_cmpge, b_zero, b_one, decide_eq_false_iff_not, decide_eq_true_eq, i_succ]
      rw [if_neg (by omega), if_neg e]
  · intro n _ hI
    simp (disch := omega) only [fX13_billPlace_L2, h.1, i_lit, i_add, i_sub, i_mul, i_neg, i_le, i_lt, i_eq, l_cmp0, l_cmplt, l_cmpgt, l_cmple, l_cmpge, b_zero, b_one, decide_eq_false_iff_not, decide_eq_true_eq]
    rw [if_pos (by omega)]
    rw [List.drop_eq_nil_of_le (Nat.le_refl _)] at hI
    unfold plcI
    rw [hI]
    rfl
theorem m_dropsBill {N : Nat} (hN : 2000 ≤ N) {L : List (Int × Int)} {nb p : Nat} (h : GB s.1 (L, nb)) (hl : L.length ≤ 10) (hp : p < L.length) : ∃ g', fX13_dropsBill N (iI (p : Int)) s = some (Ms0 s g') ∧ GB g' (L.eraseIdx p, nb) ∧ ∀ k, k ≠ 6 → k < 209 → g' k = s.1 k := by
  unfold fX13_dropsBill xjoin
  dsimp only
  rw [show (209 : Int32) = iI 209 from rfl, m_dropsBillShift hN _ (by omega)]
  refine ⟨_, rfl, ⟨?_, ?_, fun j y hy => ?_⟩, fun k h1 h2 => ?_⟩
  · simp only [upd_eq, Ms0, Ms1, Ms2, Ms3, Ms4, Ms5, Ms6, Ms7, Ms8, Ms9, Ms10, Ms11, Ms12, Ms13, Ms14, Ms15]
    have e : shG 209 10 p 2 s.1 6 = s.1 6 := by unfold shG; rw [if_neg (by omega)]
    rw [e, h.1, List.length_eraseIdx, if_pos hp, i_lit, i_sub]
    congr 1
    show (L.length : Int) - 1 = ((L.length - 1 : Nat) : Int)
    omega
  · simp only [Ms0, Ms1, Ms2, Ms3, Ms4, Ms5, Ms6, Ms7, Ms8, Ms9, Ms10, Ms11, Ms12, Ms13, Ms14, Ms15]
    rw [upd_ne (by omega)]
    unfold shG
    rw [if_neg (by omega)]
    exact h.2.1
  · have hj := lt_len hy
    simp only [List.length_eraseIdx, if_pos hp] at hj
    simp only [Ms0, Ms1, Ms2, Ms3, Ms4, Ms5, Ms6, Ms7, Ms8, Ms9, Ms10, Ms11, Ms12, Ms13, Ms14, Ms15]
    rw [upd_ne (by omega), upd_ne (by omega)]
    simp only [List.getElem?_eraseIdx] at hy
    by_cases hc : j < p
    · rw [if_pos hc] at hy
      unfold shG
      rw [if_neg (by omega), if_neg (by omega)]
      exact h.2.2 j y hy
    · rw [if_neg hc] at hy
      unfold shG
      rw [if_pos (by omega), if_pos (by omega)]
      exact h.2.2 (j + 1) y hy
  · simp only [Ms0, Ms1, Ms2, Ms3, Ms4, Ms5, Ms6, Ms7, Ms8, Ms9, Ms10, Ms11, Ms12, Ms13, Ms14, Ms15]
    rw [upd_ne h1]
    unfold shG
    rw [if_neg (by omega)]
theorem m_paysInOrder {N : Nat} (hN : 2000 ≤ N) (h : GB s.1 B) (w : WB B) {k : Int} (hk : 0 ≤ k ∧ k ≤ 999) : ∃ g', fX13_paysInOrder N (iI k) s = some (Ms0 s g') ∧ GB g' (ordP k B.1, B.2) ∧ ∀ k, k < 219 → g' k = s.1 k := by
  have hl := w.1
  unfold fX13_paysInOrder xjoin
  refine loopP (F := fun n (z : (Nat → Int32) × Int × List (Int × Int)) i => fX13_paysInOrder_L4 N _ n (iI z.2.1) (iI (i : Int)) (Ms0 s z.1)) (I := fun z i => (∀ k, k < 219 → z.1 k = s.1 k) ∧ 0 ≤ z.2.1 ∧ z.2.1 ≤ 999 ∧ z.2.2.length = i ∧ z.2.2 ++ ordP z.2.1 (B.1.drop i) = ordP k B.1 ∧ (∀ j x, z.2.2[j]? = some x → z.1 (209 + j) = iI x.1 ∧ z.1 (219 + j) = iI x.2) ∧ ∀ j x, i ≤ j → B.1[j]? = some x → z.1 (209 + j) = iI x.1 ∧ z.1 (219 + j) = iI x.2) (m := B.1.length) (P := fun r => ∃ g', r = some (Ms0 s g') ∧ GB g' (ordP k B.1, B.2) ∧ ∀ k, k < 219 → g' k = s.1 k) ?_ ?_ N 0 (s.1, k, []) (by omega) (by omega) ⟨fun _ _ => rfl, hk.1, hk.2, rfl, by simp, fun j x hx => by simp at hx, fun j x _ hx => h.2.2 j x hx⟩
  · intro n ⟨g, k', o⟩ i hi ⟨h1, h3, h4, h5, h6, h7, h8⟩
    simp only at h1 h3 h4 h5 h6 h7 h8 ⊢
    obtain ⟨x, hx, hd, hm⟩ := drop_at hi
    have q := w.2.2 x hm
    obtain ⟨g1, g2⟩ := h8 i x (by omega) hx
    rw [hd, ordP] at h6
    right
    refine ⟨(upd g (219 + i) (iI (x.2 - min k' x.2)), k' - min k' x.2, o ++ [(x.1, x.2 - min k' x.2)]), ?_, fun j hj => ?_, by simp only; omega, by simp only; omega, by simp only [List.length_append, List.length_cons, List.length_nil]; omega, by simpa using h6, fun j y hy => ?_, fun j y hj hy => ?_⟩
    · have e6 : g 6 = iI (B.1.length : Int) := by rw [h1 6 (by omega)]; exact h.1
      simp (disch := omega) only [fX13_paysInOrder_L4, xlet, xjoin, xnz_b0, xnz_b1, xnz_b, xcall_s, Ms0, Ms1, Ms2, Ms3, Ms4, Ms5, Ms6, Ms7, Ms8, Ms9, Ms10, Ms11, Ms12, Ms13, Ms14, Ms15, e6, i_lit, i_add, xrd_ln, g2, i_lit, i_add, i_sub, i_mul, i_neg, i_le, i_lt, i_eq, l_cmp0, l_cmplt, l_cmpgt, l_cmple, l_cmpge, b_zero, b_one, decide_eq_false_iff_not, decide_eq_true_eq, i_succ]
      rw [if_neg (by omega)]
      by_cases hc : x.2 ≤ k'
      · rw [if_pos hc, Int.min_eq_right hc]
      · rw [if_neg hc, Int.min_eq_left (by omega)]
    · simp only
      rw [upd_ne (by omega)]
      exact h1 j hj
    · simp only
      have hj := lt_len hy
      simp only [List.length_append, List.length_cons, List.length_nil] at hj
      by_cases e : j < o.length
      · rw [List.getElem?_append_left e] at hy
        rw [upd_ne (by omega), upd_ne (by omega)]
        exact h7 j y hy
      · have e : j = o.length := by omega
        subst e
        simp at hy
        subst hy
        rw [h5, upd_eq, upd_ne (by omega)]
        exact ⟨g1, rfl⟩
    · simp only
      have := lt_len hy
      rw [upd_ne (by omega), upd_ne (by omega)]
      exact h8 j y (by omega) hy
  · intro n ⟨g, k', o⟩ ⟨h1, h3, h4, h5, h6, h7, h8⟩
    simp only at h1 h3 h4 h5 h6 h7 h8 ⊢
    rw [List.drop_eq_nil_of_le (Nat.le_refl _), ordP, List.append_nil] at h6
    subst h6
    refine ⟨g, ?_, ⟨?_, ?_, h7⟩, h1⟩
    · have e6 : g 6 = iI (B.1.length : Int) := by rw [h1 6 (by omega)]; exact h.1
      simp (disch := omega) only [fX13_paysInOrder_L4, xlet, xjoin, xnz_b0, xnz_b1, xnz_b, xcall_s, Ms0, Ms1, Ms2, Ms3, Ms4, Ms5, Ms6, Ms7, Ms8, Ms9, Ms10, Ms11, Ms12, Ms13, Ms14, Ms15, e6, i_lit, i_add, i_sub, i_mul, i_neg, i_le, i_lt, i_eq, l_cmp0, l_cmplt, l_cmpgt, l_cmple, l_cmpge, b_zero, b_one, decide_eq_false_iff_not, decide_eq_true_eq]
      rw [if_pos (by omega)]
    · rw [h1 6 (by omega), ordP_len]; exact h.1
    · rw [h1 7 (by omega)]; exact h.2.1
theorem m_paysLoop {N : Nat} (hN : 2000 ≤ N) (K : Int32 → Int32 → MS → Option (Int32 × MS)) (v1 : Int32) {L : List (Int × Int)} {nb T : Nat} (hT : T < 1024) (h : GB s.1 (L, nb)) (hl : L.length ≤ 10) (hw : ∀ x ∈ L, 0 ≤ x.2 ∧ x.2 ≤ 999) : ∃ g', fX13_pays_L52 N K N v1 (iI (T : Int)) (iI 0) (iI 9) s = K v1 (iI ((L.length : Int) - (fltI T 0 L).length)) (Ms0 s g') ∧ GB g' (fltI T 0 L, nb) ∧ ∀ j, j ≠ 6 → j < 209 → g' j = s.1 j := by
  refine loopM (F := fun n (z : Nat × (Nat → Int32) × Nat × List (Int × Int)) => fX13_pays_L52 N K n v1 (iI (T : Int)) (iI (z.2.2.1 : Int)) (iI ((z.1 : Int) - 1)) (Ms0 s z.2.1)) (I := fun z => z.1 ≤ 10 ∧ GB z.2.1 (z.2.2.2, nb) ∧ z.2.2.2 = L.take z.1 ++ fltI T z.1 (L.drop z.1) ∧ z.2.2.1 + z.2.2.2.length = L.length ∧ ∀ j, j ≠ 6 → j < 209 → z.2.1 j = s.1 j) (μ := fun z => z.1) (P := fun r => ∃ g', r = K v1 (iI ((L.length : Int) - (fltI T 0 L).length)) (Ms0 s g') ∧ GB g' (fltI T 0 L, nb) ∧ ∀ j, j ≠ 6 → j < 209 → g' j = s.1 j) ?_ N (10, s.1, 0, L) (by simp only; omega) ⟨Nat.le_refl _, h, by simp only; rw [List.take_of_length_le hl, List.drop_eq_nil_of_le hl, fltI, List.append_nil], by simp, fun _ _ _ => rfl⟩
  intro n ⟨q, g, c, M⟩ ⟨h1, h2, h3, h4, h5⟩
  simp only at h1 h2 h3 h4 h5 ⊢
  cases q with
  | zero =>
    left
    rw [List.take_zero, List.drop_zero, List.nil_append] at h3
    subst h3
    refine ⟨g, ?_, h2, h5⟩
    simp (disch := omega) only [fX13_pays_L52, i_lit, i_add, i_sub, i_mul, i_neg, i_le, i_lt, i_eq, l_cmp0, l_cmplt, l_cmpgt, l_cmple, l_cmpge, b_zero, b_one, decide_eq_false_iff_not, decide_eq_true_eq]
    rw [if_pos (by omega), show (c : Int) = (L.length : Int) - (fltI T 0 L).length by omega]
  | succ p =>
    right
    have ep : ((p + 1 : Nat) : Int) - 1 = (p : Int) := by omega
    have fl := fltI_sub T (L.drop (p + 1)) (p + 1)
    have e6 : g 6 = iI (M.length : Int) := h2.1
    have hM : M.length ≤ 10 := by omega
    by_cases hp : p < L.length
    · obtain ⟨x, hx, hd, hm⟩ := drop_at hp
      have hr := hw x hm
      have ht : L.take (p + 1) = L.take p ++ [x] := by rw [List.take_add_one, hx]; rfl
      rw [ht] at h3
      have htl : (L.take p).length = p := by rw [List.length_take]; omega
      have hMp : M[p]? = some x := by
        rw [h3, List.append_assoc, List.getElem?_append_right (by omega), htl, Nat.sub_self]
        rfl
      have hpl := lt_len hMp
      have e2 : g (219 + p) = iI x.2 := (h2.2.2 p x hMp).2
      have he : M.eraseIdx p = L.take p ++ fltI T (p + 1) (L.drop (p + 1)) := by
        rw [h3, List.append_assoc, List.eraseIdx_append_of_length_le (by omega), htl, Nat.sub_self]
        rfl
      obtain ⟨g', d1, d2, d3⟩ := m_dropsBill (s := Ms0 s g) hN (p := p) h2 hM hpl
      by_cases hb : T.testBit p = true
      · refine ⟨(p, g', c + 1, M.eraseIdx p), ?_, ⟨by simp only; omega, d2, ?_, ?_, fun j a b => ?_⟩, by simp only; omega⟩
        · simp (disch := omega) only [fX13_pays_L52, ep, xlet, xjoin, xnz_b0, xnz_b1, xnz_b, xcall_s, Ms0, Ms1, Ms2, Ms3, Ms4, Ms5, Ms6, Ms7, Ms8, Ms9, Ms10, Ms11, Ms12, Ms13, Ms14, Ms15, e6, i_lit, i_add, i_sub, i_mul, i_neg, i_le, i_lt, i_eq, l_cmp0, l_cmplt, l_cmpgt, l_cmple, l_cmpge, b_zero, b_one, decide_eq_false_iff_not, decide_eq_true_eq, bit_tI, eq_self, if_true, Int.reduceEq, if_false, i_succ]
          rw [if_neg (by omega), if_neg (by omega), if_pos hb]
          rw [d1, xcall_s, ← Int.sub_eq_add_neg]
        · simp only
          rw [he, hd, fltI, if_pos (Or.inl hb)]
        · simp only
          rw [List.length_eraseIdx, if_pos hpl]
          omega
        · simp only
          rw [d3 j a b]
          exact h5 j a b
      · by_cases hz : x.2 = 0
        · refine ⟨(p, g', c + 1, M.eraseIdx p), ?_, ⟨by simp only; omega, d2, ?_, ?_, fun j a b => ?_⟩, by simp only; omega⟩
          · simp (disch := omega) only [fX13_pays_L52, ep, xlet, xjoin, xnz_b0, xnz_b1, xnz_b, xcall_s, Ms0, Ms1, Ms2, Ms3, Ms4, Ms5, Ms6, Ms7, Ms8, Ms9, Ms10, Ms11, Ms12, Ms13, Ms14, Ms15, e6, i_lit, i_add, xrd_ln, e2, i_lit, i_add, i_sub, i_mul, i_neg, i_le, i_lt, i_eq, l_cmp0, l_cmplt, l_cmpgt, l_cmple, l_cmpge, b_zero, b_one, decide_eq_false_iff_not, decide_eq_true_eq, bit_tI, eq_self, if_true, Int.reduceEq, if_false, i_succ]
            rw [if_neg (by omega), if_neg (by omega), if_neg hb, if_pos hz]
            rw [d1, xcall_s, ← Int.sub_eq_add_neg]
          · simp only
            rw [he, hd, fltI, if_pos (Or.inr hz)]
          · simp only
            rw [List.length_eraseIdx, if_pos hpl]
            omega
          · simp only
            rw [d3 j a b]
            exact h5 j a b
        · refine ⟨(p, g, c, M), ?_, ⟨by simp only; omega, h2, ?_, h4, h5⟩, by simp only; omega⟩
          · simp (disch := omega) only [fX13_pays_L52, ep, xlet, xjoin, xnz_b0, xnz_b1, xnz_b, xcall_s, Ms0, Ms1, Ms2, Ms3, Ms4, Ms5, Ms6, Ms7, Ms8, Ms9, Ms10, Ms11, Ms12, Ms13, Ms14, Ms15, e6, i_lit, i_add, xrd_ln, e2, i_lit, i_add, i_sub, i_mul, i_neg, i_le, i_lt, i_eq, l_cmp0, l_cmplt, l_cmpgt, l_cmple, l_cmpge, b_zero, b_one, decide_eq_false_iff_not, decide_eq_true_eq, bit_tI, eq_self, if_true, Int.reduceEq, if_false, i_succ]
            rw [if_neg (by omega), if_neg (by omega), if_neg hb, if_neg hz]
            rw [← Int.sub_eq_add_neg]
          · simp only
            rw [h3, hd, fltI, if_neg (by simp [hb, hz]), List.append_assoc]
            rfl
    · have hMl : M = L := by rw [h3, List.take_of_length_le (by omega), List.drop_eq_nil_of_le (by omega), fltI, List.append_nil]
      refine ⟨(p, g, c, M), ?_, ⟨by simp only; omega, h2, ?_, h4, h5⟩, by simp only; omega⟩
      · simp (disch := omega) only [fX13_pays_L52, ep, xlet, xjoin, xnz_b0, xnz_b1, xnz_b, xcall_s, Ms0, Ms1, Ms2, Ms3, Ms4, Ms5, Ms6, Ms7, Ms8, Ms9, Ms10, Ms11, Ms12, Ms13, Ms14, Ms15, e6, i_lit, i_add, i_sub, i_mul, i_neg, i_le, i_lt, i_eq, l_cmp0, l_cmplt, l_cmpgt, l_cmple, l_cmpge, b_zero, b_one, decide_eq_false_iff_not, decide_eq_true_eq, eq_self, if_true, Int.reduceEq, if_false, i_succ]
        rw [if_neg (by omega), if_pos (by omega)]
        rw [← Int.sub_eq_add_neg]
      · simp only
        rw [hMl, List.take_of_length_le (by omega), List.drop_eq_nil_of_le (by omega), fltI, List.append_nil]
end MB
