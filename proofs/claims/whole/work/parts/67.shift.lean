/-! the reference's shifting loops -/
def shG (b st p m : Nat) (g : Nat → Int32) : Nat → Int32 := fun k => if b ≤ k ∧ k < b + st * m ∧ p ≤ (k - b) % st ∧ (k - b) % st ≠ st - 1 then g (k + 1) else g k
theorem m_endsShift {N : Nat} (hN : 2000 ≤ N) (K : MS → Option MS) {p : Nat} (hp : p < 6) (s : MS) : fX13_ends_L4 N K N (iI (p : Int)) (iI 157) s = K (Ms0 s (shG 157 6 p 6 s.1)) := by
  refine loopP (F := fun n (g : Nat → Int32) i => fX13_ends_L4 N K n (iI (p : Int)) (iI ((157 + 6 * i : Nat) : Int)) (Ms0 s g)) (I := fun g i => g = shG 157 6 p i s.1) (m := 6) (P := fun r => r = _) ?_ ?_ N 0 s.1 (by omega) (by omega) ?_
  · intro n g i hi hg
    refine .inr ⟨_, ?_, rfl⟩
    simp (disch := omega) only [fX13_ends_L4, xlet, xjoin, xnz_b0, xnz_b1, xnz_b, xcall_s, i_lit, i_add, i_sub, i_mul, i_neg, i_le, i_lt, i_eq, l_cmp0, l_cmplt, l_cmpgt, l_cmple, l_cmpge, b_zero, b_one, decide_eq_false_iff_not, decide_eq_true_eq]
    rw [if_neg (by omega)]
    refine loopP (F := fun n (g' : Nat → Int32) k => fX13_ends_L13 N _ n (iI (p : Int)) (iI ((157 + 6 * i : Nat) : Int)) (iI (k : Int)) (Ms0 s g')) (I := fun g' k => p ≤ k ∧ g' = fun x => if 157 + 6 * i + p ≤ x ∧ x < 157 + 6 * i + k then g (x + 1) else g x) (m := 5) (P := fun r => r = _) ?_ ?_ N p g (by omega) (by omega) ?_
    · intro n' g' k hk ⟨hpk, hg'⟩
      refine .inr ?_
      apply Exists.intro
      apply And.intro
      · simp (disch := omega) only [fX13_ends_L13, xlet, xjoin, xnz_b0, xnz_b1, xnz_b, xcall_s, i_lit, i_add, i_sub, i_mul, i_neg, i_le, i_lt, i_eq, l_cmp0, l_cmplt, l_cmpgt, l_cmple, l_cmpge, b_zero, b_one, decide_eq_false_iff_not, decide_eq_true_eq, Ms0, Ms1, Ms2, Ms3, Ms4, Ms5, Ms6, Ms7, Ms8, Ms9, Ms10, Ms11, Ms12, Ms13, Ms14, Ms15]
        rw [if_neg (by omega), xrd_at (k := 157 + 6 * i + k + 1) (by congr 1) (by omega) (by omega), xrd_at (k := 157 + 6 * i + k) (by congr 1) (by omega) (by omega)]
        rfl
      · refine ⟨by omega, ?_⟩
        subst hg'
        funext x
        unfold upd
        dsimp only
        by_cases h1 : x = 157 + 6 * i + k
        · subst h1
          rw [if_pos rfl, if_neg (by omega), if_pos (by omega)]
        · rw [if_neg h1]
          by_cases h2 : 157 + 6 * i + p ≤ x ∧ x < 157 + 6 * i + k
          · rw [if_pos h2, if_pos (by omega)]
          · rw [if_neg h2, if_neg (by omega)]
    · intro n' g' ⟨_, hg'⟩
      simp (disch := omega) only [fX13_ends_L13, xlet, xjoin, xnz_b0, xnz_b1, xnz_b, xcall_s, i_lit, i_add, i_sub, i_mul, i_neg, i_le, i_lt, i_eq, l_cmp0, l_cmplt, l_cmpgt, l_cmple, l_cmpge, b_zero, b_one, decide_eq_false_iff_not, decide_eq_true_eq, Ms0, Ms1, Ms2, Ms3, Ms4, Ms5, Ms6, Ms7, Ms8, Ms9, Ms10, Ms11, Ms12, Ms13, Ms14, Ms15]
      have e1 : (((157 + 6 * i : Nat) : Int) + 6) = ((157 + 6 * (i + 1) : Nat) : Int) := by omega
      have e2 : (fun x => if 157 + 6 * i + p ≤ x ∧ x < 157 + 6 * i + 5 then shG 157 6 p i s.1 (x + 1) else shG 157 6 p i s.1 x) = shG 157 6 p (i + 1) s.1 := by
        funext x
        unfold shG
        by_cases h1 : 157 + 6 * i + p ≤ x ∧ x < 157 + 6 * i + 5
        · rw [if_pos h1, if_neg (by omega), if_pos (by omega)]
        · rw [if_neg h1]
          by_cases h2 : 157 ≤ x ∧ x < 157 + 6 * i ∧ p ≤ (x - 157) % 6 ∧ (x - 157) % 6 ≠ 6 - 1
          · rw [if_pos h2, if_pos (by omega)]
          · rw [if_neg h2, if_neg (by omega)]
      rw [if_pos (by omega), hg', hg, e1, e2]
    · refine ⟨Nat.le_refl _, ?_⟩
      funext x
      rw [if_neg (by omega)]
  · intro n g hg
    simp (disch := omega) only [fX13_ends_L4, xlet, xjoin, xnz_b0, xnz_b1, xnz_b, xcall_s, i_lit, i_add, i_sub, i_mul, i_neg, i_le, i_lt, i_eq, l_cmp0, l_cmplt, l_cmpgt, l_cmple, l_cmpge, b_zero, b_one, decide_eq_false_iff_not, decide_eq_true_eq, Ms0, Ms1, Ms2, Ms3, Ms4, Ms5, Ms6, Ms7, Ms8, Ms9, Ms10, Ms11, Ms12, Ms13, Ms14, Ms15]
    rw [if_pos (by omega), hg]
  · funext x
    unfold shG
    rw [if_neg (by omega)]
theorem m_dropsBillShift {N : Nat} (hN : 2000 ≤ N) (K : MS → Option MS) {p : Nat} (hp : p < 10) (s : MS) : fX13_dropsBill_L4 N K N (iI (p : Int)) (iI 209) s = K (Ms0 s (shG 209 10 p 2 s.1)) := by
  refine loopP (F := fun n (g : Nat → Int32) i => fX13_dropsBill_L4 N K n (iI (p : Int)) (iI ((209 + 10 * i : Nat) : Int)) (Ms0 s g)) (I := fun g i => g = shG 209 10 p i s.1) (m := 2) (P := fun r => r = _) ?_ ?_ N 0 s.1 (by omega) (by omega) ?_
  · intro n g i hi hg
    refine .inr ⟨_, ?_, rfl⟩
    simp (disch := omega) only [fX13_dropsBill_L4, xlet, xjoin, xnz_b0, xnz_b1, xnz_b, xcall_s, i_lit, i_add, i_sub, i_mul, i_neg, i_le, i_lt, i_eq, l_cmp0, l_cmplt, l_cmpgt, l_cmple, l_cmpge, b_zero, b_one, decide_eq_false_iff_not, decide_eq_true_eq]
    rw [if_neg (by omega)]
    refine loopP (F := fun n (g' : Nat → Int32) k => fX13_dropsBill_L13 N _ n (iI (p : Int)) (iI ((209 + 10 * i : Nat) : Int)) (iI (k : Int)) (Ms0 s g')) (I := fun g' k => p ≤ k ∧ g' = fun x => if 209 + 10 * i + p ≤ x ∧ x < 209 + 10 * i + k then g (x + 1) else g x) (m := 9) (P := fun r => r = _) ?_ ?_ N p g (by omega) (by omega) ?_
    · intro n' g' k hk ⟨hpk, hg'⟩
      refine .inr ?_
      apply Exists.intro
      apply And.intro
      · simp (disch := omega) only [fX13_dropsBill_L13, xlet, xjoin, xnz_b0, xnz_b1, xnz_b, xcall_s, i_lit, i_add, i_sub, i_mul, i_neg, i_le, i_lt, i_eq, l_cmp0, l_cmplt, l_cmpgt, l_cmple, l_cmpge, b_zero, b_one, decide_eq_false_iff_not, decide_eq_true_eq, Ms0, Ms1, Ms2, Ms3, Ms4, Ms5, Ms6, Ms7, Ms8, Ms9, Ms10, Ms11, Ms12, Ms13, Ms14, Ms15]
        rw [if_neg (by omega), xrd_at (k := 209 + 10 * i + k + 1) (by congr 1) (by omega) (by omega), xrd_at (k := 209 + 10 * i + k) (by congr 1) (by omega) (by omega)]
        rfl
      · refine ⟨by omega, ?_⟩
        subst hg'
        funext x
        unfold upd
        dsimp only
        by_cases h1 : x = 209 + 10 * i + k
        · subst h1
          rw [if_pos rfl, if_neg (by omega), if_pos (by omega)]
        · rw [if_neg h1]
          by_cases h2 : 209 + 10 * i + p ≤ x ∧ x < 209 + 10 * i + k
          · rw [if_pos h2, if_pos (by omega)]
          · rw [if_neg h2, if_neg (by omega)]
    · intro n' g' ⟨_, hg'⟩
      simp (disch := omega) only [fX13_dropsBill_L13, xlet, xjoin, xnz_b0, xnz_b1, xnz_b, xcall_s, i_lit, i_add, i_sub, i_mul, i_neg, i_le, i_lt, i_eq, l_cmp0, l_cmplt, l_cmpgt, l_cmple, l_cmpge, b_zero, b_one, decide_eq_false_iff_not, decide_eq_true_eq, Ms0, Ms1, Ms2, Ms3, Ms4, Ms5, Ms6, Ms7, Ms8, Ms9, Ms10, Ms11, Ms12, Ms13, Ms14, Ms15]
      have e1 : (((209 + 10 * i : Nat) : Int) + 10) = ((209 + 10 * (i + 1) : Nat) : Int) := by omega
      have e2 : (fun x => if 209 + 10 * i + p ≤ x ∧ x < 209 + 10 * i + 9 then shG 209 10 p i s.1 (x + 1) else shG 209 10 p i s.1 x) = shG 209 10 p (i + 1) s.1 := by
        funext x
        unfold shG
        by_cases h1 : 209 + 10 * i + p ≤ x ∧ x < 209 + 10 * i + 9
        · rw [if_pos h1, if_neg (by omega), if_pos (by omega)]
        · rw [if_neg h1]
          by_cases h2 : 209 ≤ x ∧ x < 209 + 10 * i ∧ p ≤ (x - 209) % 10 ∧ (x - 209) % 10 ≠ 10 - 1
          · rw [if_pos h2, if_pos (by omega)]
          · rw [if_neg h2, if_neg (by omega)]
      rw [if_pos (by omega), hg', hg, e1, e2]
    · refine ⟨Nat.le_refl _, ?_⟩
      funext x
      rw [if_neg (by omega)]
  · intro n g hg
    simp (disch := omega) only [fX13_dropsBill_L4, xlet, xjoin, xnz_b0, xnz_b1, xnz_b, xcall_s, i_lit, i_add, i_sub, i_mul, i_neg, i_le, i_lt, i_eq, l_cmp0, l_cmplt, l_cmpgt, l_cmple, l_cmpge, b_zero, b_one, decide_eq_false_iff_not, decide_eq_true_eq, Ms0, Ms1, Ms2, Ms3, Ms4, Ms5, Ms6, Ms7, Ms8, Ms9, Ms10, Ms11, Ms12, Ms13, Ms14, Ms15]
    rw [if_pos (by omega), hg]
  · funext x
    unfold shG
    rw [if_neg (by omega)]
theorem m_dropsLotShift {N : Nat} (hN : 2000 ≤ N) (K : MS → Option MS) (s : MS) : fX13_dropsLot_L4 N K N (iI 193) s = K (Ms0 s (shG 193 8 0 2 s.1)) := by
  refine loopP (F := fun n (g : Nat → Int32) i => fX13_dropsLot_L4 N K n (iI ((193 + 8 * i : Nat) : Int)) (Ms0 s g)) (I := fun g i => g = shG 193 8 0 i s.1) (m := 2) (P := fun r => r = _) ?_ ?_ N 0 s.1 (by omega) (by omega) ?_
  · intro n g i hi hg
    refine .inr ⟨_, ?_, rfl⟩
    simp (disch := omega) only [fX13_dropsLot_L4, xlet, xjoin, xnz_b0, xnz_b1, xnz_b, xcall_s, i_lit, i_add, i_sub, i_mul, i_neg, i_le, i_lt, i_eq, l_cmp0, l_cmplt, l_cmpgt, l_cmple, l_cmpge, b_zero, b_one, decide_eq_false_iff_not, decide_eq_true_eq]
    rw [if_neg (by omega)]
    refine loopP (F := fun n (g' : Nat → Int32) k => fX13_dropsLot_L13 N _ n (iI ((193 + 8 * i : Nat) : Int)) (iI (k : Int)) (Ms0 s g')) (I := fun g' k => 0 ≤ k ∧ g' = fun x => if 193 + 8 * i + 0 ≤ x ∧ x < 193 + 8 * i + k then g (x + 1) else g x) (m := 7) (P := fun r => r = _) ?_ ?_ N 0 g (by omega) (by omega) ?_
    · intro n' g' k hk ⟨hpk, hg'⟩
      refine .inr ?_
      apply Exists.intro
      apply And.intro
      · simp (disch := omega) only [fX13_dropsLot_L13, xlet, xjoin, xnz_b0, xnz_b1, xnz_b, xcall_s, i_lit, i_add, i_sub, i_mul, i_neg, i_le, i_lt, i_eq, l_cmp0, l_cmplt, l_cmpgt, l_cmple, l_cmpge, b_zero, b_one, decide_eq_false_iff_not, decide_eq_true_eq, Ms0, Ms1, Ms2, Ms3, Ms4, Ms5, Ms6, Ms7, Ms8, Ms9, Ms10, Ms11, Ms12, Ms13, Ms14, Ms15]
        rw [if_neg (by omega), xrd_at (k := 193 + 8 * i + k + 1) (by congr 1) (by omega) (by omega), xrd_at (k := 193 + 8 * i + k) (by congr 1) (by omega) (by omega)]
        rfl
      · refine ⟨by omega, ?_⟩
        subst hg'
        funext x
        unfold upd
        dsimp only
        by_cases h1 : x = 193 + 8 * i + k
        · subst h1
          rw [if_pos rfl, if_neg (by omega), if_pos (by omega)]
        · rw [if_neg h1]
          by_cases h2 : 193 + 8 * i + 0 ≤ x ∧ x < 193 + 8 * i + k
          · rw [if_pos h2, if_pos (by omega)]
          · rw [if_neg h2, if_neg (by omega)]
    · intro n' g' ⟨_, hg'⟩
      simp (disch := omega) only [fX13_dropsLot_L13, xlet, xjoin, xnz_b0, xnz_b1, xnz_b, xcall_s, i_lit, i_add, i_sub, i_mul, i_neg, i_le, i_lt, i_eq, l_cmp0, l_cmplt, l_cmpgt, l_cmple, l_cmpge, b_zero, b_one, decide_eq_false_iff_not, decide_eq_true_eq, Ms0, Ms1, Ms2, Ms3, Ms4, Ms5, Ms6, Ms7, Ms8, Ms9, Ms10, Ms11, Ms12, Ms13, Ms14, Ms15]
      have e1 : (((193 + 8 * i : Nat) : Int) + 8) = ((193 + 8 * (i + 1) : Nat) : Int) := by omega
      have e2 : (fun x => if 193 + 8 * i + 0 ≤ x ∧ x < 193 + 8 * i + 7 then shG 193 8 0 i s.1 (x + 1) else shG 193 8 0 i s.1 x) = shG 193 8 0 (i + 1) s.1 := by
        funext x
        unfold shG
        by_cases h1 : 193 + 8 * i + 0 ≤ x ∧ x < 193 + 8 * i + 7
        · rw [if_pos h1, if_neg (by omega), if_pos (by omega)]
        · rw [if_neg h1]
          by_cases h2 : 193 ≤ x ∧ x < 193 + 8 * i ∧ 0 ≤ (x - 193) % 8 ∧ (x - 193) % 8 ≠ 8 - 1
          · rw [if_pos h2, if_pos (by omega)]
          · rw [if_neg h2, if_neg (by omega)]
      rw [if_pos (by omega), hg', hg, e1, e2]
    · refine ⟨Nat.le_refl _, ?_⟩
      funext x
      rw [if_neg (by omega)]
  · intro n g hg
    simp (disch := omega) only [fX13_dropsLot_L4, xlet, xjoin, xnz_b0, xnz_b1, xnz_b, xcall_s, i_lit, i_add, i_sub, i_mul, i_neg, i_le, i_lt, i_eq, l_cmp0, l_cmplt, l_cmpgt, l_cmple, l_cmpge, b_zero, b_one, decide_eq_false_iff_not, decide_eq_true_eq, Ms0, Ms1, Ms2, Ms3, Ms4, Ms5, Ms6, Ms7, Ms8, Ms9, Ms10, Ms11, Ms12, Ms13, Ms14, Ms15]
    rw [if_pos (by omega), hg]
  · funext x
    unfold shG
    rw [if_neg (by omega)]
