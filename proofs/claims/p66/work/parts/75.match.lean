/-! ===== sets of bills ===== -/
def ss (T : Nat) : Nat → List (Int × Int) → Int
  | _, [] => 0
  | i, x :: r => (if T.testBit i = true then x.2 else 0) + ss T (i + 1) r
def prefB (a b : Nat) : Bool := if pop 12 a = pop 12 b then !(decide ((iI (a : Int) &&& ((iI (a : Int) ^^^ iI (b : Int)) &&& (-(iI (a : Int) ^^^ iI (b : Int))))) = iI 0)) else decide (pop 12 a < pop 12 b)
def choN (m : Int) (L : List (Int × Int)) : Nat → Nat
  | 0 => 0
  | k + 1 => if k ≠ 0 ∧ ss k 0 L = m ∧ (choN m L k = 0 ∨ prefB k (choN m L k) = true) then k else choN m L k
theorem choN_lt (m : Int) (L : List (Int × Int)) : ∀ k, choN m L k ≤ k - 1 := by
  intro k
  induction k with
  | zero => exact Nat.le_refl _
  | succ k ih => rw [choN]; split <;> omega
theorem choN_iff (m : Int) (L : List (Int × Int)) : ∀ k, choN m L k ≠ 0 ↔ ∃ T, 1 ≤ T ∧ T < k ∧ ss T 0 L = m := by
  intro k
  induction k with
  | zero => exact ⟨fun h => absurd rfl h, fun ⟨T, _, h, _⟩ => absurd h (by omega)⟩
  | succ k ih =>
    rw [choN]
    by_cases hc : k ≠ 0 ∧ ss k 0 L = m ∧ (choN m L k = 0 ∨ prefB k (choN m L k) = true)
    · rw [if_pos hc]
      exact ⟨fun _ => ⟨k, by omega, by omega, hc.2.1⟩, fun _ => hc.1⟩
    · rw [if_neg hc, ih]
      constructor
      · rintro ⟨T, h1, h2, h3⟩
        exact ⟨T, h1, by omega, h3⟩
      · rintro ⟨T, h1, h2, h3⟩
        by_cases e : T = k
        · subst e
          have hz : ¬ choN m L T = 0 := fun hz => hc ⟨by omega, h3, Or.inl hz⟩
          exact ih.mp hz
        · exact ⟨T, h1, by omega, h3⟩
theorem choN_ss (m : Int) (L : List (Int × Int)) : ∀ k, choN m L k ≠ 0 → ss (choN m L k) 0 L = m := by
  intro k
  induction k with
  | zero => intro h; exact absurd rfl h
  | succ k ih =>
    rw [choN]
    split
    · rename_i h; intro _; exact h.2.1
    · exact ih
theorem ss_rng : ∀ (L : List (Int × Int)) T i, (∀ x ∈ L, 0 ≤ x.2 ∧ x.2 ≤ 999) → 0 ≤ ss T i L ∧ ss T i L ≤ 999 * L.length := by
  intro L
  induction L with
  | nil => intro T i _; exact ⟨Int.le_refl _, Int.le_refl _⟩
  | cons x r ih =>
    intro T i h
    have := ih T (i + 1) (fun y hy => h y (List.mem_cons_of_mem _ hy))
    have := h x List.mem_cons_self
    rw [ss, List.length_cons]
    split <;> omega
theorem ss_zero : ∀ (L : List (Int × Int)) i, ss 0 i L = 0 := by
  intro L
  induction L with
  | nil => intro i; rfl
  | cons x r ih => intro i; rw [ss, Nat.zero_testBit, if_neg (by decide), ih]; rfl
theorem ss_add {p s : Nat} (hs : s < 2 ^ p) : ∀ (L : List (Int × Int)) a, a ≤ p → ∀ x, L[p - a]? = some x → ss (2 ^ p + s) a L = ss s a L + x.2 := by
  have hb : ∀ i, (2 ^ p + s).testBit i = if i = p then true else s.testBit i := by
    intro i
    by_cases h1 : i = p
    · subst h1
      rw [if_pos rfl, Nat.testBit_two_pow_add_eq, Nat.testBit_lt_two_pow hs]; rfl
    · rw [if_neg h1]
      rcases Nat.lt_or_ge i p with h2 | h2
      · exact Nat.testBit_two_pow_add_gt h2 s
      · have h3 : 2 ^ (p + 1) ≤ 2 ^ i := Nat.pow_le_pow_right (by decide) (by omega)
        have h4 : 2 ^ (p + 1) = 2 ^ p + 2 ^ p := by rw [Nat.pow_succ]; omega
        rw [Nat.testBit_lt_two_pow (by omega), Nat.testBit_lt_two_pow (by omega)]
  have hsame : ∀ (L : List (Int × Int)) a, p < a → ss (2 ^ p + s) a L = ss s a L := by
    intro L
    induction L with
    | nil => intro a _; rfl
    | cons x r ih => intro a ha; rw [ss, ss, hb, if_neg (show ¬ a = p by omega), ih (a + 1) (by omega)]
  intro L
  induction L with
  | nil => intro a _ x hx; simp at hx
  | cons y r ih =>
    intro a ha x hx
    rw [ss, ss, hb]
    by_cases h1 : a = p
    · subst h1
      rw [Nat.sub_self] at hx
      simp at hx
      subst hx
      rw [if_pos rfl, if_pos rfl, hsame r (a + 1) (by omega), Nat.testBit_lt_two_pow hs, if_neg (by decide)]
      omega
    · rw [if_neg h1]
      have e : p - a = (p - (a + 1)) + 1 := by omega
      rw [e] at hx
      simp only [List.getElem?_cons_succ] at hx
      rw [ih (a + 1) (by omega) x hx]
      omega
theorem pop_10 {T : Nat} (hT : T < 1024) : pop 12 T = pop 10 T := by
  unfold pop
  rw [sumN, sumN, Nat.testBit_lt_two_pow (i := 10) hT, Nat.testBit_lt_two_pow (i := 11) (by omega), if_neg (by decide)]
  omega
theorem pop_rng (n T : Nat) : 0 ≤ pop n T ∧ pop n T ≤ n := by
  unfold pop
  induction n with
  | zero => exact ⟨Int.le_refl _, Int.le_refl _⟩
  | succ n ih => rw [sumN]; split <;> omega
theorem i_addB (z : Int) (b : Bool) : iI z + iB b = iI (z + if b = true then 1 else 0) := by
  unfold iB
  rw [i_add]
theorem c_isPreferred (N : Nat) {a b : Nat} (ha : a < 1024) (hb : b < 1024) : fX7_isPreferred N (iI (a : Int)) (iI (b : Int)) = some (iB (prefB a b)) := by
  have q1 := pop_rng 12 a
  have q2 := pop_rng 12 b
  unfold fX7_isPreferred prefB
  simp (disch := omega) only [c_bitCount, xlet, xjoin, xnz_b0, xnz_b1, xnz_b, xcall_s, i_lit, i_add, i_sub, i_mul, i_neg, i_le, i_lt, i_eq, l_cmp0, l_cmplt, l_cmpgt, l_cmple, l_cmpge, b_zero, b_one, decide_eq_false_iff_not, decide_eq_true_eq]
  by_cases h1 : pop 12 a = pop 12 b
  · rw [if_pos h1, if_pos h1]
    split
    · rename_i h; simp [h, iB]
    · rename_i h; simp [h, iB]
  · rw [if_neg h1, if_neg h1]
    by_cases h2 : pop 12 b ≤ pop 12 a
    · rw [if_pos h2, decide_eq_false (by omega)]; rfl
    · rw [if_neg h2, decide_eq_true (by omega)]; rfl
section MM
variable {s : MS} {B : SB}
theorem two_pow_10 {n : Nat} (h : n ≤ 10) : 1 ≤ 2 ^ n ∧ 2 ^ n ≤ 1024 := ⟨Nat.one_le_two_pow, Nat.pow_le_pow_right (n := 2) (by decide) h⟩
end MM
