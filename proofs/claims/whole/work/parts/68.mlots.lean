/-! ===== the reference's lots ===== -/
section ML
variable {s : MS} {L : SL}
theorem m_costumes {N : Nat} (hN : 2000 ≤ N) (h : GL s.1 L) (hl : L.length ≤ 8) : fX13_costumes N s = some (iI (lSum L)) := by
  unfold fX13_costumes xjoin
  refine loopP (F := fun n (z : Int) i => fX13_costumes_L4 N s _ n (iI z) (iI (i : Int))) (I := fun z i => z + lSum (L.drop i) = lSum L) (m := L.length) (P := fun r => r = _) ?_ ?_ N 0 0 (by omega) (by omega) (by simp)
  · intro n z i hi hz
    obtain ⟨x, hx, hd, -⟩ := drop_at hi
    refine .inr ⟨z + x.1, ?_, by rw [← hz, hd, lSum]; omega⟩
    simp (disch := omega) only [fX13_costumes_L4, h.1, xlet, xjoin, xnz_b0, xnz_b1, xnz_b, xcall_s, i_lit, i_add, xrd_ln, (h.2 i x hx).1, i_lit, i_add, i_sub, i_mul, i_neg, i_le, i_lt, i_eq, l_cmp0, l_cmplt, l_cmpgt, l_cmple, l_cmpge, b_zero, b_one, decide_eq_false_iff_not, decide_eq_true_eq, i_succ]
    rw [if_neg (by omega)]
  · intro n z hz
    rw [List.drop_eq_nil_of_le (Nat.le_refl _), lSum, Int.add_zero] at hz
    simp (disch := omega) only [fX13_costumes_L4, h.1, i_le, i_lt, i_eq, l_cmp0, l_cmplt, l_cmpgt, l_cmple, l_cmpge, b_zero, b_one, decide_eq_false_iff_not, decide_eq_true_eq, hz]
    rw [if_pos (by omega)]
theorem m_costOfFirst {N : Nat} (hN : 2000 ≤ N) (h : GL s.1 L) (hw : WL L) {k : Int} (hk : 0 ≤ k ∧ k < 2147483648) : fX13_costOfFirst N (iI k) s = some (iI (sCost k L)) := by
  have hl := hw.1
  unfold fX13_costOfFirst xjoin
  refine loopP (F := fun n (z : Int × Int) i => fX13_costOfFirst_L7 N s _ n (iI z.2) (iI z.1) (iI (i : Int))) (I := fun z i => 0 ≤ z.1 ∧ z.1 < 2147483648 ∧ z.2 + sCost z.1 (L.drop i) = sCost k L) (m := L.length) (P := fun r => r = _) ?_ ?_ N 0 (k, 0) (by omega) (by omega) (by simp [hk])
  · intro n ⟨z, c⟩ i hi ⟨h0, h1, hz⟩
    simp only at h0 h1 hz ⊢
    obtain ⟨x, hx, hd, hm⟩ := drop_at hi
    have q := hw.2 x hm
    refine .inr ⟨(z - min z x.1, c + min z x.1 * x.2), ?_, by simp only; omega, by simp only; omega, by rw [← hz, hd, sCost]; simp only; omega⟩
    simp (disch := omega) only [fX13_costOfFirst_L7, h.1, xlet, xjoin, xnz_b0, xnz_b1, xnz_b, xcall_s, i_lit, i_add, xrd_ln, (h.2 i x hx).1, (h.2 i x hx).2, i_lit, i_add, i_sub, i_mul, i_neg, i_le, i_lt, i_eq, l_cmp0, l_cmplt, l_cmpgt, l_cmple, l_cmpge, b_zero, b_one, decide_eq_false_iff_not, decide_eq_true_eq, i_succ]
    rw [if_neg (by omega)]
    by_cases hc : x.1 ≤ z
    · rw [if_pos hc, Int.min_eq_right hc]
    · rw [if_neg hc, Int.min_eq_left (by omega)]
  · intro n ⟨z, c⟩ ⟨h0, h1, hz⟩
    simp only at h0 h1 hz ⊢
    rw [List.drop_eq_nil_of_le (Nat.le_refl _), sCost, Int.add_zero] at hz
    simp (disch := omega) only [fX13_costOfFirst_L7, h.1, i_le, i_lt, i_eq, l_cmp0, l_cmplt, l_cmpgt, l_cmple, l_cmpge, b_zero, b_one, decide_eq_false_iff_not, decide_eq_true_eq, hz]
    rw [if_pos (by omega)]
theorem m_dropsLot {N : Nat} (hN : 2000 ≤ N) {x : Int × Int} (h : GL s.1 (x :: L)) (hl : L.length ≤ 7) : ∃ g', fX13_dropsLot N s = some (Ms0 s g') ∧ GL g' L ∧ ∀ k, k ≠ 5 → (k < 193 ∨ 209 ≤ k) → g' k = s.1 k := by
  unfold fX13_dropsLot xjoin
  dsimp only
  rw [show (193 : Int32) = iI 193 from rfl, m_dropsLotShift hN]
  refine ⟨_, rfl, ⟨?_, fun j y hy => ?_⟩, fun k h1 h2 => ?_⟩
  · simp only [upd_eq, Ms0, Ms1, Ms2, Ms3, Ms4, Ms5, Ms6, Ms7, Ms8, Ms9, Ms10, Ms11, Ms12, Ms13, Ms14, Ms15]
    have e : shG 193 8 0 2 s.1 5 = s.1 5 := by unfold shG; rw [if_neg (by omega)]
    rw [e, h.1, List.length_cons, i_lit, i_sub]
    congr 1
    omega
  · have := lt_len hy
    simp only [Ms0, Ms1, Ms2, Ms3, Ms4, Ms5, Ms6, Ms7, Ms8, Ms9, Ms10, Ms11, Ms12, Ms13, Ms14, Ms15]
    rw [upd_ne (by omega), upd_ne (by omega)]
    have e1 : shG 193 8 0 2 s.1 (193 + j) = s.1 (193 + (j + 1)) := by unfold shG; rw [if_pos (by omega)]; rfl
    have e2 : shG 193 8 0 2 s.1 (201 + j) = s.1 (201 + (j + 1)) := by unfold shG; rw [if_pos (by omega)]; rfl
    rw [e1, e2]
    exact h.2 (j + 1) y (by simpa using hy)
  · simp only [Ms0, Ms1, Ms2, Ms3, Ms4, Ms5, Ms6, Ms7, Ms8, Ms9, Ms10, Ms11, Ms12, Ms13, Ms14, Ms15]
    rw [upd_ne h1]
    unfold shG
    rw [if_neg (by omega)]
theorem m_sellLoop {N : Nat} (hN : 2000 ≤ N) (K : Int32 → Int32 → Int32 → MS → Option (Int32 × MS)) (v1 v2 v3 : Int32) (h : GL s.1 L) (hw : WL L) {k : Nat} (hk : (k : Int) ≤ lSum L) (hk2 : k ≤ 20) : ∃ g', fX13_sells_L49 N K N v1 v2 v3 (iI (k : Int)) s = K v1 v2 v3 (Ms0 s g') ∧ GL g' (sTake k L) ∧ ∀ j, j ≠ 5 → (j < 193 ∨ 209 ≤ j) → g' j = s.1 j := by
  refine loopM (F := fun n (z : Nat × (Nat → Int32) × SL) => fX13_sells_L49 N K n v1 v2 v3 (iI (z.1 : Int)) (Ms0 s z.2.1)) (I := fun z => GL z.2.1 z.2.2 ∧ WL z.2.2 ∧ (z.1 : Int) ≤ lSum z.2.2 ∧ z.1 ≤ 20 ∧ sTake z.1 z.2.2 = sTake k L ∧ ∀ j, j ≠ 5 → (j < 193 ∨ 209 ≤ j) → z.2.1 j = s.1 j) (μ := fun z => z.1) (P := fun r => ∃ g', r = K v1 v2 v3 (Ms0 s g') ∧ GL g' (sTake k L) ∧ ∀ j, j ≠ 5 → (j < 193 ∨ 209 ≤ j) → g' j = s.1 j) ?_ N (k, s.1, L) (by simp only; omega) ⟨h, hw, hk, hk2, rfl, fun j _ _ => rfl⟩
  intro n ⟨z, g, M⟩ ⟨h1, h2, h3, h4, h5, h6⟩
  simp only at h1 h2 h3 h4 h5 h6 ⊢
  by_cases hz : z = 0
  · left
    subst hz
    have h5' : M = sTake k L := (sTake_0 h2).symm.trans h5
    subst h5'
    refine ⟨g, ?_, h1, h6⟩
    simp (disch := omega) only [fX13_sells_L49, i_lit, i_add, i_sub, i_mul, i_neg, i_le, i_lt, i_eq, l_cmp0, l_cmplt, l_cmpgt, l_cmple, l_cmpge, b_zero, b_one, decide_eq_false_iff_not, decide_eq_true_eq]
    rw [if_pos (by omega)]
  · right
    cases M with
    | nil => exact absurd h3 (by simp only [lSum]; omega)
    | cons x r =>
      have q := h2.2 x List.mem_cons_self
      have hl : r.length ≤ 7 := by have := h2.1; simp only [List.length_cons] at this; omega
      have e0 := h1.2 0 x (by simp)
      obtain ⟨c, hc⟩ := Int.eq_ofNat_of_zero_le (show 0 ≤ x.1 by omega)
      rw [lSum] at h3
      rw [sTake] at h5
      by_cases hl2 : x.1 ≤ z
      · rw [Int.min_eq_right hl2, if_neg (by omega)] at h5
        -- the lot goes
        have h7 : GL (upd g 193 (iI 0)) ((0, x.2) :: r) := by
          refine ⟨by rw [upd_ne (by omega)]; simpa using h1.1, fun j y hy => ?_⟩
          cases j with
          | zero =>
            simp at hy
            subst hy
            refine ⟨upd_eq, ?_⟩
            rw [upd_ne (by omega)]
            exact e0.2
          | succ j =>
            have := lt_len hy
            simp only [List.length_cons] at this
            rw [upd_ne (by omega), upd_ne (by omega)]
            exact h1.2 (j + 1) y (by simpa using hy)
        obtain ⟨g', d1, d2, d3⟩ := m_dropsLot (s := Ms0 s (upd g 193 (iI 0))) hN h7 hl
        refine ⟨(z - c, g', r), ?_, ⟨d2, h2.tail, by simp only; omega, by simp only; omega, ?_, fun j a b => ?_⟩, by simp only; omega⟩
        · have e1 : g 193 = iI x.1 := e0.1
          simp (disch := omega) only [fX13_sells_L49, xlet, xjoin, xnz_b0, xnz_b1, xnz_b, xcall_s, i_lit, i_add, i_sub, i_mul, i_neg, i_le, i_lt, i_eq, l_cmp0, l_cmplt, l_cmpgt, l_cmple, l_cmpge, b_zero, b_one, decide_eq_false_iff_not, decide_eq_true_eq, Ms0, Ms1, Ms2, Ms3, Ms4, Ms5, Ms6, Ms7, Ms8, Ms9, Ms10, Ms11, Ms12, Ms13, Ms14, Ms15, e1, upd_eq]
          rw [if_neg (by omega), if_pos hl2, Int.sub_self, if_pos rfl]
          rw [show (Ms0 s (upd g 193 (iI 0))) = Ms0 (Ms0 s g) (upd g 193 (iI 0)) from rfl] at d1
          rw [d1, xcall_s]
          rw [show (z : Int) - x.1 = ((z - c : Nat) : Int) by omega]
        · simp only
          rw [← h5]
          congr 1
          omega
        · show g' j = _
          rw [d3 j a b]
          show upd g 193 _ j = _
          rw [upd_ne (by omega)]
          exact h6 j a b
      · rw [Int.min_eq_left (by omega), if_pos (by omega), Int.sub_self] at h5
        refine ⟨(0, upd g 193 (iI (x.1 - z)), (x.1 - z, x.2) :: r), ?_, ⟨⟨?_, fun j y hy => ?_⟩, ⟨h2.1, fun y hy => ?_⟩, ?_, by simp only; omega, ?_, fun j a b => ?_⟩, by simp only; omega⟩
        · have e1 : g 193 = iI x.1 := e0.1
          simp (disch := omega) only [fX13_sells_L49, xlet, xjoin, xnz_b0, xnz_b1, xnz_b, xcall_s, i_lit, i_add, i_sub, i_mul, i_neg, i_le, i_lt, i_eq, l_cmp0, l_cmplt, l_cmpgt, l_cmple, l_cmpge, b_zero, b_one, decide_eq_false_iff_not, decide_eq_true_eq, Ms0, Ms1, Ms2, Ms3, Ms4, Ms5, Ms6, Ms7, Ms8, Ms9, Ms10, Ms11, Ms12, Ms13, Ms14, Ms15, e1, upd_eq]
          rw [if_neg (by omega), if_neg hl2, if_neg (by omega), Int.sub_self]
          rfl
        · simp only
          rw [upd_ne (by omega)]; simpa using h1.1
        · simp only at hy ⊢
          cases j with
          | zero =>
            simp at hy
            subst hy
            refine ⟨upd_eq, ?_⟩
            rw [upd_ne (by omega)]
            exact e0.2
          | succ j =>
            have := lt_len hy
            simp only [List.length_cons] at this
            rw [upd_ne (by omega), upd_ne (by omega)]
            exact h1.2 (j + 1) y (by simpa using hy)
        · simp only at hy
          rcases List.mem_cons.mp hy with rfl | hy
          · simp only; omega
          · exact h2.2 y (List.mem_cons_of_mem _ hy)
        · have := lSum_rng h2.tail
          simp only [lSum]
          omega
        · simp only
          rw [← h5]
          show sTake 0 _ = _
          rw [sTake, Int.min_eq_left (by simp only; omega), if_pos (by simp only; omega), Int.sub_zero, Int.sub_zero]
        · simp only
          rw [upd_ne (by omega)]
          exact h6 j a b
end ML
