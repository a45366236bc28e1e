/-! ===== the class's accounts ===== -/
abbrev SA : Type := Nat × (Nat → Int) × (Nat → Int) × (Nat → Int) × (Nat → Int)
abbrev aN (A : SA) : Nat := A.1
abbrev aK (A : SA) : Nat → Int := A.2.1
abbrev aP (A : SA) : Nat → Int := A.2.2.1
abbrev aD (A : SA) : Nat → Int := A.2.2.2.1
abbrev aC (A : SA) : Nat → Int := A.2.2.2.2
def isKd (k : Int) : Prop := k = 97 ∨ k = 108 ∨ k = 105 ∨ k = 101
def isKdB (k : Int) : Bool := decide (k = 97) || decide (k = 108) || decide (k = 105) || decide (k = 101)
def RA (a : AccS) (A : SA) : Prop := xfitC 12 a.1 = true ∧ a.2.2.2.2 = iI (aN A : Int) ∧ ∀ i, i < aN A → a.1 i = iI (aK A i) ∧ a.2.1 i = iI (aP A i) ∧ a.2.2.1 i = iL (aD A i) ∧ a.2.2.2.1 i = iL (aC A i)
def WA (A : SA) : Prop := 6 ≤ aN A ∧ aN A ≤ 12 ∧ (∀ i, i < aN A → isKd (aK A i) ∧ -1 ≤ aP A i ∧ aP A i < i ∧ 0 ≤ aD A i ∧ 0 ≤ aC A i) ∧ sumN (aD A) (aN A) = sumN (aC A) (aN A) ∧ (∀ i, aN A ≤ i → aD A i = 0 ∧ aC A i = 0) ∧ sumN (aD A) (aN A) < 2147483648 ∧ ∀ i, i < aN A → -268435456 < aD A i - aC A i ∧ aD A i - aC A i < 268435456
theorem WA.at {A : SA} (h : WA A) {i : Nat} (hi : i < aN A) : isKd (aK A i) ∧ -1 ≤ aP A i ∧ aP A i < i ∧ 0 ≤ aD A i ∧ aD A i < 2147483648 ∧ 0 ≤ aC A i ∧ aC A i < 2147483648 := by
  obtain ⟨-, -, h1, h2, -, h3, -⟩ := h
  obtain ⟨a, b, c, d, e⟩ := h1 i hi
  have x := sumN_ge (aN A) (fun j hj => (h1 j hj).2.2.2.1) i hi
  have y := sumN_ge (aN A) (fun j hj => (h1 j hj).2.2.2.2) i hi
  exact ⟨a, b, c, d, by omega, e, by omega⟩
def bal (A : SA) (i : Nat) : Int := if aK A i = 97 ∨ aK A i = 101 then aD A i - aC A i else -(aD A i - aC A i)
def gainAt (A : SA) (i : Nat) : Int := if aK A i = 105 ∨ aK A i = 101 then aC A i - aD A i else 0
theorem bal_rng {A : SA} (h : WA A) {i : Nat} (hi : i < aN A) : -268435456 < bal A i ∧ bal A i < 268435456 := by
  have := h.2.2.2.2.2.2 i hi
  unfold bal
  split <;> omega
theorem c_within (N : Nat) {a b c : Int} (ha : -2147483648 ≤ a ∧ a < 2147483648) (hb : -2147483648 ≤ b ∧ b < 2147483648) (hc : -2147483648 ≤ c ∧ c < 2147483648) : fX12_isWithin N (iI a) (iI b) (iI c) = some (iB (decide (b ≤ a ∧ a ≤ c))) := by
  unfold fX12_isWithin
  simp (disch := omega) only [xlet, xjoin, xnz_b0, xnz_b1, xnz_b, xcall_s, i_lit, i_add, i_sub, i_mul, i_neg, i_le, i_lt, i_eq, l_cmp0, l_cmplt, l_cmpgt, l_cmple, l_cmpge, b_zero, b_one, decide_eq_false_iff_not, decide_eq_true_eq]
  split
  · rw [decide_eq_false (by omega)]; rfl
  · split
    · rw [decide_eq_false (by omega)]; rfl
    · rw [decide_eq_true (by omega)]; rfl
theorem c_isKind (N : Nat) {a : Int} (ha : -2147483648 ≤ a ∧ a < 2147483648) : fX12_isKind N (iI a) = some (iB (isKdB a)) := by
  unfold fX12_isKind isKdB
  simp (disch := omega) only [xlet, xjoin, xnz_b0, xnz_b1, xnz_b, xcall_s, i_lit, i_add, i_sub, i_mul, i_neg, i_le, i_lt, i_eq, l_cmp0, l_cmplt, l_cmpgt, l_cmple, l_cmpge, b_zero, b_one, decide_eq_false_iff_not, decide_eq_true_eq]
  by_cases h1 : a = 97
  · simp [h1, iB]
  · by_cases h2 : a = 108
    · simp [h2, iB]
    · by_cases h3 : a = 105
      · simp [h3, iB]
      · by_cases h4 : a = 101
        · simp [h4, iB]
        · simp [h1, h2, h3, h4, iB]
theorem isKdB_iff {a : Int} : isKdB a = true ↔ isKd a := by
  unfold isKdB isKd
  simp [or_assoc]
section CA
variable {a : AccS} {A : SA}
theorem c_has (N : Nat) (h : RA a A) (hn : aN A ≤ 12) {z : Int} (hz : -2147483648 ≤ z ∧ z < 2147483648) : fX1_has N (iI z) a = some (iB (decide (0 ≤ z ∧ z < aN A))) := by
  unfold fX1_has
  rw [h.2.1]
  simp (disch := omega) only [xlet, xjoin, xnz_b0, xnz_b1, xnz_b, xcall_s, i_lit, i_add, i_sub, i_mul, i_neg, c_within]
  congr 2
  exact decide_eq_decide.mpr (by omega)
theorem c_fNew (N : Nat) (h : RA a A) (hn : aN A ≤ 12) {k : Int} (hk : -2147483648 ≤ k ∧ k < 2147483648) : fX1_faultOfNew N (iI k) a = some (if isKdB k = false then 3 else if 12 ≤ aN A then 4 else 0) := by
  unfold fX1_faultOfNew
  rw [c_isKind N hk, h.2.1]
  simp (disch := omega) only [xlet, xjoin, xnz_b0, xnz_b1, xnz_b, xcall_s, i_lit, i_add, i_sub, i_mul, i_neg, i_le, i_lt, i_eq, l_cmp0, l_cmplt, l_cmpgt, l_cmple, l_cmpge, b_zero, b_one, decide_eq_false_iff_not, decide_eq_true_eq]
  split
  · rfl
  · by_cases h1 : 12 ≤ aN A
    · rw [if_pos (by omega), if_pos h1]
    · rw [if_neg (by omega), if_neg h1]
theorem c_fNewBelow (N : Nat) (h : RA a A) (hn : aN A ≤ 12) {z : Int} (hz : -2147483648 ≤ z ∧ z < 2147483648) : fX1_faultOfNewBelow N (iI z) a = some (if ¬ (0 ≤ z ∧ z < aN A) then 1 else if 12 ≤ aN A then 4 else 0) := by
  unfold fX1_faultOfNewBelow
  rw [c_has N h hn hz, h.2.1]
  simp (disch := omega) only [xlet, xjoin, xnz_b0, xnz_b1, xnz_b, xcall_s, i_lit, i_add, i_sub, i_mul, i_neg, i_le, i_lt, i_eq, l_cmp0, l_cmplt, l_cmpgt, l_cmple, l_cmpge, b_zero, b_one, decide_eq_false_iff_not, decide_eq_true_eq]
  split
  · rfl
  · by_cases h1 : 12 ≤ aN A
    · rw [if_pos (by omega), if_pos h1]
    · rw [if_neg (by omega), if_neg h1]
def whyE (n : Nat) (d c m : Int) : Nat := if ¬ (0 ≤ d ∧ d < n) ∨ ¬ (0 ≤ c ∧ c < n) then 1 else if d = c ∨ ¬ (1 ≤ m ∧ m ≤ 999) then 2 else 0
theorem c_fEntry (N : Nat) (h : RA a A) (hn : aN A ≤ 12) {d c m : Int} (hd : -2147483648 ≤ d ∧ d < 2147483648) (hc : -2147483648 ≤ c ∧ c < 2147483648) (hm : -2147483648 ≤ m ∧ m < 2147483648) : fX1_faultOfEntry N (iI d) (iI c) (iI m) a = some (if whyE (aN A) d c m = 1 then 1 else if whyE (aN A) d c m = 2 then 3 else 0) := by
  unfold fX1_faultOfEntry
  rw [c_has N h hn hd, c_has N h hn hc]
  simp (disch := omega) only [xlet, xjoin, xnz_b0, xnz_b1, xnz_b, xcall_s, i_lit, i_add, i_sub, i_mul, i_neg, i_le, i_lt, i_eq, l_cmp0, l_cmplt, l_cmpgt, l_cmple, l_cmpge, b_zero, b_one, decide_eq_false_iff_not, decide_eq_true_eq, c_within]
  unfold whyE
  by_cases h1 : 0 ≤ d ∧ d < aN A
  · by_cases h2 : 0 ≤ c ∧ c < aN A
    · by_cases h3 : d = c
      · simp [h1, h2, h3]
      · by_cases h4 : 1 ≤ m ∧ m ≤ 999
        · simp [h1, h2, h3, h4]
        · simp [h1, h2, h3, h4]
    · simp [h1, h2]
  · simp [h1]
theorem RA.k (h : RA a A) {i : Nat} (hi : i < aN A) : a.1 i = iI (aK A i) := (h.2.2 i hi).1
theorem RA.p (h : RA a A) {i : Nat} (hi : i < aN A) : a.2.1 i = iI (aP A i) := (h.2.2 i hi).2.1
theorem RA.d (h : RA a A) {i : Nat} (hi : i < aN A) : a.2.2.1 i = iL (aD A i) := (h.2.2 i hi).2.2.1
theorem RA.c (h : RA a A) {i : Nat} (hi : i < aN A) : a.2.2.2.1 i = iL (aC A i) := (h.2.2 i hi).2.2.2
theorem WA.rk (h : WA A) {i : Nat} (hi : i < aN A) : 0 ≤ aK A i ∧ aK A i < 128 := by
  have := (h.at hi).1
  unfold isKd at this
  omega
theorem c_kindAt (N : Nat) (h : RA a A) (w : WA A) {i : Nat} (hi : i < aN A) : fX1_kindAt N (iI (i : Int)) a = some (iI (aK A i)) := by
  have := w.2.1
  have := w.rk hi
  unfold fX1_kindAt
  rw [xrd_n (by omega) (by omega), h.k hi, xnz_c (by omega) (by omega)]
theorem c_parentAt (N : Nat) (h : RA a A) (w : WA A) {i : Nat} (hi : i < aN A) : fX1_parentAt N (iI (i : Int)) a = some (iI (aP A i)) := by
  have := w.2.1
  unfold fX1_parentAt
  rw [xrd_n (by omega) (by omega), h.p hi]
theorem c_debitsAt (N : Nat) (h : RA a A) (w : WA A) {i : Nat} (hi : i < aN A) : fX1_debitsAt N (iI (i : Int)) a = some (iL (aD A i)) := by
  have := w.2.1
  unfold fX1_debitsAt
  rw [xrd_n (by omega) (by omega), h.d hi]
theorem c_creditsAt (N : Nat) (h : RA a A) (w : WA A) {i : Nat} (hi : i < aN A) : fX1_creditsAt N (iI (i : Int)) a = some (iL (aC A i)) := by
  have := w.2.1
  unfold fX1_creditsAt
  rw [xrd_n (by omega) (by omega), h.c hi]
theorem c_bal (N : Nat) (h : RA a A) (w : WA A) {i : Nat} (hi : i < aN A) : fX1_balanceAt N (iI (i : Int)) a = some (iL (bal A i)) := by
  have := w.2.1
  have := w.rk hi
  unfold fX1_balanceAt bal
  simp (disch := omega) only [xlet, xjoin, xnz_b0, xnz_b1, xnz_b, xcall_s, xrd_n, h.k hi, h.d hi, h.c hi, i_lit, i_add, i_sub, i_mul, i_neg, l_lit, l_add, l_sub, l_mul, l_neg, i_le, i_lt, i_eq, l_cmp0, l_cmplt, l_cmpgt, l_cmple, l_cmpge, b_zero, b_one, decide_eq_false_iff_not, decide_eq_true_eq]
  by_cases h1 : aK A i = 97
  · simp [h1]
  · by_cases h2 : aK A i = 101
    · simp [h2]
    · simp [h1, h2]
theorem c_isOfProfit (N : Nat) (h : RA a A) (w : WA A) {i : Nat} (hi : i < aN A) : fX1_isOfProfit N (iI (i : Int)) a = some (iB (decide (aK A i = 105 ∨ aK A i = 101))) := by
  have := w.2.1
  have := w.rk hi
  unfold fX1_isOfProfit
  simp (disch := omega) only [xlet, xjoin, xnz_b0, xnz_b1, xnz_b, xcall_s, xrd_n, h.k hi, i_lit, i_add, i_sub, i_mul, i_neg, i_le, i_lt, i_eq, l_cmp0, l_cmplt, l_cmpgt, l_cmple, l_cmpge, b_zero, b_one, decide_eq_false_iff_not, decide_eq_true_eq]
  by_cases h1 : aK A i = 105
  · simp [h1, iB]
  · by_cases h2 : aK A i = 101
    · simp [h2, iB]
    · simp [h1, h2, iB]
theorem c_allDebits {N : Nat} (hN : 2000 ≤ N) (h : RA a A) (w : WA A) : fX1_allDebits N a = some (iL (sumN (aD A) (aN A))) := by
  have := w.2.1
  unfold fX1_allDebits xjoin
  refine loopP (F := fun n v i => fX1_allDebits_L4 N a _ n v (iI (i : Int))) (I := fun v i => v = iL (sumN (aD A) i)) (m := aN A) (P := fun r => r = _) ?_ ?_ N 0 _ (by omega) (by omega) rfl
  · intro n v i hi hv
    refine .inr ⟨_, ?_, rfl⟩
    simp (disch := omega) only [fX1_allDebits_L4, h.2.1, xlet, xjoin, xnz_b0, xnz_b1, xnz_b, xcall_s, xrd_n, h.d hi, i_lit, i_add, i_sub, i_mul, i_neg, l_lit, l_add, l_sub, l_mul, l_neg, i_le, i_lt, i_eq, l_cmp0, l_cmplt, l_cmpgt, l_cmple, l_cmpge, b_zero, b_one, decide_eq_false_iff_not, decide_eq_true_eq, hv, i_succ, sumN]
    rw [if_neg (by omega)]
  · intro n v hv
    simp (disch := omega) only [fX1_allDebits_L4, h.2.1, i_le, i_lt, i_eq, l_cmp0, l_cmplt, l_cmpgt, l_cmple, l_cmpge, b_zero, b_one, decide_eq_false_iff_not, decide_eq_true_eq, hv]
    rw [if_pos (by omega)]
theorem c_allCredits {N : Nat} (hN : 2000 ≤ N) (h : RA a A) (w : WA A) : fX1_allCredits N a = some (iL (sumN (aC A) (aN A))) := by
  have := w.2.1
  unfold fX1_allCredits xjoin
  refine loopP (F := fun n v i => fX1_allCredits_L4 N a _ n v (iI (i : Int))) (I := fun v i => v = iL (sumN (aC A) i)) (m := aN A) (P := fun r => r = _) ?_ ?_ N 0 _ (by omega) (by omega) rfl
  · intro n v i hi hv
    refine .inr ⟨_, ?_, rfl⟩
    simp (disch := omega) only [fX1_allCredits_L4, h.2.1, xlet, xjoin, xnz_b0, xnz_b1, xnz_b, xcall_s, xrd_n, h.c hi, i_lit, i_add, i_sub, i_mul, i_neg, l_lit, l_add, l_sub, l_mul, l_neg, i_le, i_lt, i_eq, l_cmp0, l_cmplt, l_cmpgt, l_cmple, l_cmpge, b_zero, b_one, decide_eq_false_iff_not, decide_eq_true_eq, hv, i_succ, sumN]
    rw [if_neg (by omega)]
  · intro n v hv
    simp (disch := omega) only [fX1_allCredits_L4, h.2.1, i_le, i_lt, i_eq, l_cmp0, l_cmplt, l_cmpgt, l_cmple, l_cmpge, b_zero, b_one, decide_eq_false_iff_not, decide_eq_true_eq, hv]
    rw [if_pos (by omega)]
theorem c_gain {N : Nat} (hN : 2000 ≤ N) (h : RA a A) (w : WA A) : fX1_gain N a = some (iL (sumN (gainAt A) (aN A))) := by
  have := w.2.1
  unfold fX1_gain xjoin
  refine loopP (F := fun n v i => fX1_gain_L4 N a _ n v (iI (i : Int))) (I := fun v i => v = iL (sumN (gainAt A) i)) (m := aN A) (P := fun r => r = _) ?_ ?_ N 0 _ (by omega) (by omega) rfl
  · intro n v i hi hv
    refine .inr ⟨_, ?_, rfl⟩
    simp (disch := omega) only [fX1_gain_L4, c_isOfProfit N h w hi, h.2.1, xlet, xjoin, xnz_b0, xnz_b1, xnz_b, xcall_s, xrd_n, h.c hi, h.d hi, i_lit, i_add, i_sub, i_mul, i_neg, l_lit, l_add, l_sub, l_mul, l_neg, i_le, i_lt, i_eq, l_cmp0, l_cmplt, l_cmpgt, l_cmple, l_cmpge, b_zero, b_one, decide_eq_false_iff_not, decide_eq_true_eq, hv, i_succ, sumN, gainAt]
    rw [if_neg (by omega)]
    by_cases h1 : aK A i = 105 ∨ aK A i = 101
    · rw [if_neg (by simp; omega), if_pos h1]
    · rw [if_pos (by simp; omega), if_neg h1, Int.add_zero]
  · intro n v hv
    simp (disch := omega) only [fX1_gain_L4, h.2.1, i_le, i_lt, i_eq, l_cmp0, l_cmplt, l_cmpgt, l_cmple, l_cmpge, b_zero, b_one, decide_eq_false_iff_not, decide_eq_true_eq, hv]
    rw [if_pos (by omega)]
end CA
