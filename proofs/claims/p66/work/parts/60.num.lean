/-! ===== whole numbers behind the machine's ints and longs ===== -/
def iI (z : Int) : Int32 := Int32.ofInt z
def iL (z : Int) : Int64 := Int64.ofInt z
theorem i_lit (n : Nat) : (no_index (OfNat.ofNat n : Int32)) = iI (OfNat.ofNat n : Int) := by
  show Int32.ofNat n = Int32.ofInt (n : Int)
  rw [Int32.ofInt_eq_ofNat]
theorem l_lit (n : Nat) : (no_index (OfNat.ofNat n : Int64)) = iL (OfNat.ofNat n : Int) := by
  show Int64.ofNat n = Int64.ofInt (n : Int)
  rw [Int64.ofInt_eq_ofNat]
theorem i_add (a b : Int) : iI a + iI b = iI (a + b) := (Int32.ofInt_add a b).symm
theorem i_sub (a b : Int) : iI a - iI b = iI (a - b) := (Int32.ofInt_sub a b).symm
theorem i_mul (a b : Int) : iI a * iI b = iI (a * b) := (Int32.ofInt_mul a b).symm
theorem i_neg (a : Int) : -iI a = iI (-a) := (Int32.ofInt_neg a).symm
theorem l_add (a b : Int) : iL a + iL b = iL (a + b) := (Int64.ofInt_add a b).symm
theorem l_sub (a b : Int) : iL a - iL b = iL (a - b) := (Int64.ofInt_sub a b).symm
theorem l_mul (a b : Int) : iL a * iL b = iL (a * b) := (Int64.ofInt_mul a b).symm
theorem l_neg (a : Int) : -iL a = iL (-a) := (Int64.ofInt_neg a).symm
def iR (z : Int) : Prop := -2147483648 ≤ z ∧ z < 2147483648
def lR (z : Int) : Prop := -9223372036854775808 ≤ z ∧ z < 9223372036854775808
theorem i_int {z : Int} (h1 : -2147483648 ≤ z) (h2 : z < 2147483648) : (iI z).toInt = z := Int32.toInt_ofInt_of_le (by simpa using h1) (by simpa using h2)
theorem l_int {z : Int} (h1 : -9223372036854775808 ≤ z) (h2 : z < 9223372036854775808) : (iL z).toInt = z := Int64.toInt_ofInt_of_le (by simpa using h1) (by simpa using h2)
theorem i_of (x : Int32) : x = iI x.toInt := (Int32.ofInt_toInt x).symm
theorem i_rng (x : Int32) : -2147483648 ≤ x.toInt ∧ x.toInt < 2147483648 := ⟨by have := Int32.le_toInt x; simpa using this, by have := Int32.toInt_lt x; simpa using this⟩
theorem i_of' (x : Int32) : ∃ z : Int, x = iI z ∧ -2147483648 ≤ z ∧ z < 2147483648 := ⟨x.toInt, i_of x, i_rng x⟩
theorem i_le {a b : Int} (h1 : -2147483648 ≤ a) (h2 : a < 2147483648) (h3 : -2147483648 ≤ b) (h4 : b < 2147483648) : (iI a ≤ iI b) = (a ≤ b) := by
  rw [Int32.le_iff_toInt_le, i_int h1 h2, i_int h3 h4]
theorem i_lt {a b : Int} (h1 : -2147483648 ≤ a) (h2 : a < 2147483648) (h3 : -2147483648 ≤ b) (h4 : b < 2147483648) : (iI a < iI b) = (a < b) := by
  rw [Int32.lt_iff_toInt_lt, i_int h1 h2, i_int h3 h4]
theorem i_eq {a b : Int} (h1 : -2147483648 ≤ a) (h2 : a < 2147483648) (h3 : -2147483648 ≤ b) (h4 : b < 2147483648) : (iI a = iI b) = (a = b) := by
  rw [← Int32.toInt_inj, i_int h1 h2, i_int h3 h4]
theorem l_le {a b : Int} (h1 : -9223372036854775808 ≤ a) (h2 : a < 9223372036854775808) (h3 : -9223372036854775808 ≤ b) (h4 : b < 9223372036854775808) : (iL a ≤ iL b) = (a ≤ b) := by
  rw [Int64.le_iff_toInt_le, l_int h1 h2, l_int h3 h4]
theorem l_lt {a b : Int} (h1 : -9223372036854775808 ≤ a) (h2 : a < 9223372036854775808) (h3 : -9223372036854775808 ≤ b) (h4 : b < 9223372036854775808) : (iL a < iL b) = (a < b) := by
  rw [Int64.lt_iff_toInt_lt, l_int h1 h2, l_int h3 h4]
theorem l_eq {a b : Int} (h1 : -9223372036854775808 ≤ a) (h2 : a < 9223372036854775808) (h3 : -9223372036854775808 ≤ b) (h4 : b < 9223372036854775808) : (iL a = iL b) = (a = b) := by
  rw [← Int64.toInt_inj, l_int h1 h2, l_int h3 h4]
theorem i_toL {a : Int} (h1 : -2147483648 ≤ a) (h2 : a < 2147483648) : (iI a).toInt64 = iL a := Int32.toInt64_ofInt h1 (Int.le_of_lt_add_one h2)
theorem l_toI (a : Int) : (iL a).toInt32 = iI a := Int64.toInt32_ofInt
theorem i_div {a b : Int} (h1 : -2147483648 ≤ a) (h2 : a < 2147483648) (h3 : -2147483648 ≤ b) (h4 : b < 2147483648) : iI a / iI b = iI (a.tdiv b) := (Int32.ofInt_tdiv h1 (Int.le_of_lt_add_one h2) h3 (Int.le_of_lt_add_one h4)).symm
theorem l_div {a b : Int} (h1 : -9223372036854775808 ≤ a) (h2 : a < 9223372036854775808) (h3 : -9223372036854775808 ≤ b) (h4 : b < 9223372036854775808) : iL a / iL b = iL (a.tdiv b) := (Int64.ofInt_tdiv h1 (Int.le_of_lt_add_one h2) h3 (Int.le_of_lt_add_one h4)).symm
theorem l_cmp {a b : Int} (h1 : -9223372036854775808 ≤ a) (h2 : a < 9223372036854775808) (h3 : -9223372036854775808 ≤ b) (h4 : b < 9223372036854775808) : lg_cmp (iL a) (iL b) = iI (if b < a then 1 else if a = b then 0 else -1) := by
  unfold lg_cmp
  simp only [gt_iff_lt, l_lt h3 h4 h1 h2, l_eq h1 h2 h3 h4]
  split
  · rfl
  · split <;> rfl
def cmpI (a b : Int) : Int := if b < a then 1 else if a = b then 0 else -1
theorem cmpI_is (a b : Int) : (b < a ∧ cmpI a b = 1) ∨ (a = b ∧ cmpI a b = 0) ∨ (a < b ∧ cmpI a b = -1) := by
  unfold cmpI
  by_cases h : b < a
  · exact Or.inl ⟨h, if_pos h⟩
  · by_cases h2 : a = b
    · exact Or.inr (Or.inl ⟨h2, by rw [if_neg h, if_pos h2]⟩)
    · exact Or.inr (Or.inr ⟨by omega, by rw [if_neg h, if_neg h2]⟩)
theorem l_cmp0 {a b : Int} (h1 : -9223372036854775808 ≤ a) (h2 : a < 9223372036854775808) (h3 : -9223372036854775808 ≤ b) (h4 : b < 9223372036854775808) : ((lg_cmp (iL a) (iL b) = iI 0) = (a = b)) := by
  have q := cmpI_is a b
  have e : lg_cmp (iL a) (iL b) = iI (cmpI a b) := l_cmp h1 h2 h3 h4
  rw [e, i_eq (by omega) (by omega) (by omega) (by omega)]
  apply propext
  omega
theorem l_cmpgt {a b : Int} (h1 : -9223372036854775808 ≤ a) (h2 : a < 9223372036854775808) (h3 : -9223372036854775808 ≤ b) (h4 : b < 9223372036854775808) : ((iI 0 < lg_cmp (iL a) (iL b)) = (b < a)) := by
  have q := cmpI_is a b
  have e : lg_cmp (iL a) (iL b) = iI (cmpI a b) := l_cmp h1 h2 h3 h4
  rw [e, i_lt (by omega) (by omega) (by omega) (by omega)]
  apply propext
  omega
theorem l_cmplt {a b : Int} (h1 : -9223372036854775808 ≤ a) (h2 : a < 9223372036854775808) (h3 : -9223372036854775808 ≤ b) (h4 : b < 9223372036854775808) : ((lg_cmp (iL a) (iL b) < iI 0) = (a < b)) := by
  have q := cmpI_is a b
  have e : lg_cmp (iL a) (iL b) = iI (cmpI a b) := l_cmp h1 h2 h3 h4
  rw [e, i_lt (by omega) (by omega) (by omega) (by omega)]
  apply propext
  omega
theorem l_cmple {a b : Int} (h1 : -9223372036854775808 ≤ a) (h2 : a < 9223372036854775808) (h3 : -9223372036854775808 ≤ b) (h4 : b < 9223372036854775808) : ((lg_cmp (iL a) (iL b) ≤ iI 0) = (a ≤ b)) := by
  have q := cmpI_is a b
  have e : lg_cmp (iL a) (iL b) = iI (cmpI a b) := l_cmp h1 h2 h3 h4
  rw [e, i_le (by omega) (by omega) (by omega) (by omega)]
  apply propext
  omega
theorem l_cmpge {a b : Int} (h1 : -9223372036854775808 ≤ a) (h2 : a < 9223372036854775808) (h3 : -9223372036854775808 ≤ b) (h4 : b < 9223372036854775808) : ((iI 0 ≤ lg_cmp (iL a) (iL b)) = (b ≤ a)) := by
  have q := cmpI_is a b
  have e : lg_cmp (iL a) (iL b) = iI (cmpI a b) := l_cmp h1 h2 h3 h4
  rw [e, i_le (by omega) (by omega) (by omega) (by omega)]
  apply propext
  omega
/-! steps of forms -/
section XZ
variable {α β γ : Type}
theorem xrd_I {n : Nat} {z : Int} {K : Nat → Option γ} (h0 : 0 ≤ z) (h1 : z < (n : Int)) (hn : n ≤ 2147483648) : xrd n (iI z) K = K z.toNat := by
  unfold xrd
  have e : (iI z).toInt = z := i_int (by omega) (by omega)
  rw [e, if_pos ⟨h0, h1⟩]
  congr 1
  show (iI z).toInt.toNat = z.toNat
  rw [e]
theorem xrd_at {n k : Nat} {i : Int32} {K : Nat → Option γ} (h : i = iI (k : Int)) (h1 : k < n) (hn : n ≤ 2147483648) : xrd n i K = K k := by
  subst h
  rw [xrd_I (by omega) (by omega) hn, Int.toNat_natCast]
theorem xnz_t {K : Option γ} : xnz true K = K := rfl
theorem xnz_of {b : Bool} {K : Option γ} (h : b = true) : xnz b K = K := by subst h; rfl
theorem xcall_s {x : α} {K : α → Option γ} : xcall (some x) K = K x := rfl
theorem xcall_of {a : Option α} {x : α} {K : α → Option γ} (h : a = some x) : xcall a K = K x := by subst h; rfl
end XZ
theorem upd_eq {f : Nat → Int32} {k : Nat} {x : Int32} : upd f k x k = x := if_pos rfl
theorem upd_ne {f : Nat → Int32} {k j : Nat} {x : Int32} (h : j ≠ k) : upd f k x j = f j := if_neg h
theorem upd_at {f : Nat → Int32} {k j : Nat} {x : Int32} (h : j = k) : upd f k x j = x := if_pos h
theorem updL_eq {f : Nat → Int64} {k : Nat} {x : Int64} : vp_updL f k x k = x := if_pos rfl
theorem updL_ne {f : Nat → Int64} {k j : Nat} {x : Int64} (h : j ≠ k) : vp_updL f k x j = f j := if_neg h
theorem updL_at {f : Nat → Int64} {k j : Nat} {x : Int64} (h : j = k) : vp_updL f k x j = x := if_pos h
theorem nar_char {a : Int} (h0 : 0 ≤ a) (h1 : a < 65536) : narrow .char (.int (iI a)) = .int (iI a) := by
  obtain ⟨k, rfl⟩ := Int.eq_ofNat_of_zero_le h0
  have hk : k < 65536 := by omega
  show Value.int _ = _
  congr 1
  apply Int32.toBitVec_inj.mp
  apply BitVec.eq_of_toNat_eq
  have e : (iI (k : Int)).toBitVec.toNat = k := by
    show (BitVec.ofInt 32 (k : Int)).toNat = k
    rw [BitVec.ofInt_natCast, BitVec.toNat_ofNat]
    omega
  show ((iI (k : Int)).toUInt32.toUInt16.toUInt32).toNat = _
  rw [UInt16.toNat_toUInt32, UInt32.toNat_toUInt16]
  show (iI (k : Int)).toBitVec.toNat % 65536 = _
  rw [e]
  omega
theorem vnar_char {a : Int} (h0 : 0 ≤ a) (h1 : a < 65536) : vp_nar .char (iI a) = iI a := by
  unfold vp_nar; rw [nar_char h0 h1]
theorem xnar_char {a : Int} (h0 : 0 ≤ a) (h1 : a < 65536) : xnar .char (iI a) = true := by
  unfold xnar; rw [nar_char h0 h1]; simp
theorem xnar_b0 : xnar .boolean (iI 0) = true := by decide
theorem xnar_b1 : xnar .boolean (iI 1) = true := by decide
theorem xbit_0 : xbit (iI 0) = true := by decide
theorem xbit_1 : xbit (iI 1) = true := by decide
theorem vnar_b0 : vp_nar .boolean (iI 0) = iI 0 := by decide
theorem vnar_b1 : vp_nar .boolean (iI 1) = iI 1 := by decide
def iB (b : Bool) : Int32 := iI (if b then 1 else 0)
theorem b_zero {b : Bool} : (iB b = iI 0) = (b = false) := by cases b <;> decide
theorem b_one {b : Bool} : (iB b = iI 1) = (b = true) := by cases b <;> decide
theorem xnar_b {b : Bool} : xnar .boolean (iB b) = true := by cases b <;> decide
theorem xbit_b {b : Bool} : xbit (iB b) = true := by cases b <;> decide
theorem vnar_b {b : Bool} : vp_nar .boolean (iB b) = iB b := by cases b <;> decide
theorem b_t : iI 1 = iB true := rfl
theorem b_f : iI 0 = iB false := rfl
/-! what is left of a list from a place on -/
section XL
variable {α : Type}
theorem drop_c {P L : List α} {i : Nat} {x : α} (h : P.drop i = x :: L) : i < P.length ∧ P[i]? = some x ∧ P.drop (i + 1) = L := by
  have hi : i < P.length := by
    rcases Nat.lt_or_ge i P.length with h1 | h1
    · exact h1
    · rw [List.drop_eq_nil_of_le h1] at h; cases h
  rw [List.drop_eq_getElem_cons hi] at h
  injection h with h1 h2
  exact ⟨hi, by rw [List.getElem?_eq_getElem hi, h1], h2⟩
theorem drop_n {P : List α} {i : Nat} (h : P.drop i = []) : P.length ≤ i := List.drop_eq_nil_iff.mp h
end XL
def sumN (f : Nat → Int) : Nat → Int
  | 0 => 0
  | n + 1 => sumN f n + f n
def sumF (f : Nat → Int) (i : Nat) : Nat → Int
  | 0 => 0
  | n + 1 => f i + sumF f (i + 1) n
theorem sumF_N (f : Nat → Int) : ∀ n i, sumN f (i + n) = sumN f i + sumF f i n := by
  intro n
  induction n with
  | zero => intro i; simp [sumF]
  | succ n ih =>
    intro i
    have e : i + (n + 1) = (i + 1) + n := by omega
    rw [e, ih (i + 1), sumF, sumN]
    omega
theorem sumF_0 (f : Nat → Int) (n : Nat) : sumF f 0 n = sumN f n := by
  have := sumF_N f n 0
  rw [Nat.zero_add] at this
  rw [this, sumN]; omega
theorem sumN_congr {f g : Nat → Int} : ∀ n, (∀ i, i < n → f i = g i) → sumN f n = sumN g n := by
  intro n
  induction n with
  | zero => intro _; rfl
  | succ n ih => intro h; rw [sumN, sumN, ih (fun i hi => h i (by omega)), h n (by omega)]
theorem sumN_nonneg {f : Nat → Int} : ∀ n, (∀ i, i < n → 0 ≤ f i) → 0 ≤ sumN f n := by
  intro n
  induction n with
  | zero => intro _; exact Int.le_refl _
  | succ n ih => intro h; have := ih (fun i hi => h i (by omega)); have := h n (by omega); rw [sumN]; omega
theorem sumN_ge {f : Nat → Int} : ∀ n, (∀ i, i < n → 0 ≤ f i) → ∀ i, i < n → f i ≤ sumN f n := by
  intro n
  induction n with
  | zero => intro _ i hi; omega
  | succ n ih =>
    intro h i hi
    have h1 := sumN_nonneg n (fun i hi => h i (by omega))
    have h2 := h n (by omega)
    rw [sumN]
    rcases Nat.lt_or_ge i n with h3 | h3
    · have := ih (fun i hi => h i (by omega)) i h3; omega
    · have : i = n := by omega
      subst this; omega
theorem sumN_le {f g : Nat → Int} : ∀ n, (∀ i, i < n → f i ≤ g i) → sumN f n ≤ sumN g n := by
  intro n
  induction n with
  | zero => intro _; exact Int.le_refl _
  | succ n ih => intro h; have := ih (fun i hi => h i (by omega)); have := h n (by omega); rw [sumN, sumN]; omega
theorem sumN_add (f g : Nat → Int) : ∀ n, sumN (fun i => f i + g i) n = sumN f n + sumN g n := by
  intro n
  induction n with
  | zero => rfl
  | succ n ih => rw [sumN, sumN, sumN, ih]; omega
def updI (f : Nat → Int) (k : Nat) (x : Int) : Nat → Int := fun j => if j = k then x else f j
theorem updI_eq {f : Nat → Int} {k : Nat} {x : Int} : updI f k x k = x := if_pos rfl
theorem updI_ne {f : Nat → Int} {k j : Nat} {x : Int} (h : j ≠ k) : updI f k x j = f j := if_neg h
theorem sumN_upd (f : Nat → Int) (k : Nat) (x : Int) : ∀ n, sumN (updI f k x) n = sumN f n + (if k < n then x - f k else 0) := by
  intro n
  induction n with
  | zero => rfl
  | succ n ih =>
    rw [sumN, sumN, ih]
    by_cases h : k < n
    · rw [if_pos h, if_pos (by omega), updI_ne (by omega)]; omega
    · rw [if_neg h]
      by_cases h2 : k = n
      · subst h2; rw [if_pos (by omega), updI_eq]; omega
      · rw [if_neg (by omega), updI_ne (by omega)]; omega
/-! reading at known places -/
section XQ
variable {γ : Type}
theorem xrd_n {n k : Nat} {K : Nat → Option γ} (h : k < n) (hn : n ≤ 2147483648) : xrd n (iI (k : Int)) K = K k := xrd_at rfl h hn
theorem xrd_ln {n l k : Nat} {K : Nat → Option γ} (h : (OfNat.ofNat l : Nat) + k < n) (hn : n ≤ 2147483648) : xrd n (iI ((no_index (OfNat.ofNat l : Int)) + (k : Int))) K = K (OfNat.ofNat l + k) := xrd_at (by congr 1) h hn
theorem xrd_l {n l : Nat} {K : Nat → Option γ} (h : (OfNat.ofNat l : Nat) < n) (hn : n ≤ 2147483648) : xrd n (iI (no_index (OfNat.ofNat l : Int))) K = K (OfNat.ofNat l) := xrd_at (by congr 1) h hn
theorem xrd_nn {n l k : Nat} {K : Nat → Option γ} (h : l + k < n) (hn : n ≤ 2147483648) : xrd n (iI ((l : Int) + (k : Int))) K = K (l + k) := xrd_at (by congr 1) h hn
theorem xnz_b0 {K : Option γ} : xnz (xnar .boolean (iI 0)) K = K := xnz_of xnar_b0
theorem xnz_b1 {K : Option γ} : xnz (xnar .boolean (iI 1)) K = K := xnz_of xnar_b1
theorem xnz_b {b : Bool} {K : Option γ} : xnz (xnar .boolean (iB b)) K = K := xnz_of xnar_b
theorem xnz_c {a : Int} {K : Option γ} (h0 : 0 ≤ a) (h1 : a < 65536) : xnz (xnar .char (iI a)) K = K := xnz_of (xnar_char h0 h1)
theorem xnz_d {p : Prop} {hp : Decidable p} {K : Option γ} (h : p) : xnz (@decide p hp) K = K := xnz_of (decide_eq_true h)
end XQ
theorem i_succ (k : Nat) : iI ((k : Int) + 1) = iI ((k + 1 : Nat) : Int) := rfl
/-! loops: a measure that falls; an index that rises -/
section XLP
variable {α γ : Type}
theorem loopM (F : Nat → α → Option γ) (I : α → Prop) (μ : α → Nat) (P : Option γ → Prop) (hstep : ∀ n a, I a → P (F (n + 1) a) ∨ ∃ a', F (n + 1) a = F n a' ∧ I a' ∧ μ a' < μ a) : ∀ n a, μ a < n → I a → P (F n a) := by
  intro n
  induction n with
  | zero => intro a h _; omega
  | succ n ih =>
    intro a h hI
    rcases hstep n a hI with h1 | ⟨a', e, hI', hm⟩
    · exact h1
    · rw [e]; exact ih a' (by omega) hI'
theorem loopP (F : Nat → α → Nat → Option γ) (I : α → Nat → Prop) (m : Nat) (P : Option γ → Prop) (hstep : ∀ n a i, i < m → I a i → P (F (n + 1) a i) ∨ ∃ a', F (n + 1) a i = F n a' (i + 1) ∧ I a' (i + 1)) (hend : ∀ n a, I a m → P (F (n + 1) a m)) : ∀ n i a, i ≤ m → m - i < n → I a i → P (F n a i) := by
  intro n
  induction n with
  | zero => intro i a _ h _; omega
  | succ n ih =>
    intro i a hi h hI
    rcases Nat.lt_or_ge i m with h1 | h1
    · rcases hstep n a i h1 hI with h2 | ⟨a', e, hI'⟩
      · exact h2
      · rw [e]; exact ih (i + 1) a' (by omega) (by omega) hI'
    · have : i = m := by omega
      subst this
      exact hend n a hI
end XLP
