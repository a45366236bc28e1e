/-! ===== the reference: what its numbers say; its accounts ===== -/
abbrev SJ : Type := Nat × (Nat → Int) × (Nat → Int) × (Nat → Int) × (Nat → Int) × (Nat → Int)
abbrev jN (J : SJ) : Nat := J.1
abbrev jD (J : SJ) : Nat → Int := J.2.1
abbrev jC (J : SJ) : Nat → Int := J.2.2.1
abbrev jA (J : SJ) : Nat → Int := J.2.2.2.1
abbrev jH (J : SJ) : Nat → Int := J.2.2.2.2.1
abbrev jM (J : SJ) : Nat → Int := J.2.2.2.2.2
abbrev SPe : Type := Int × Int × Int × Int × Int × Int
abbrev SP : Type := List SPe
abbrev SL : Type := List (Int × Int)
abbrev SB : Type := List (Int × Int) × Nat
abbrev SG : Type := SA × SJ × SP × SL × SB × Nat × Nat
abbrev gA (S : SG) : SA := S.1
abbrev gJ (S : SG) : SJ := S.2.1
abbrev gP (S : SG) : SP := S.2.2.1
abbrev gL (S : SG) : SL := S.2.2.2.1
abbrev gB (S : SG) : SB := S.2.2.2.2.1
abbrev gH (S : SG) : Nat := S.2.2.2.2.2.1
abbrev gC (S : SG) : Nat := S.2.2.2.2.2.2
def jK (J : SJ) : Nat := min (jN J) 20
def GA (g : Nat → Int32) (A : SA) : Prop := g 1 = iI (aN A : Int) ∧ (∀ i, i < aN A → g (9 + i) = iI (aK A i) ∧ g (21 + i) = iI (aP A i + 1)) ∧ ∀ i, i < 12 → g (33 + i) = iI (aD A i) ∧ g (45 + i) = iI (aC A i)
def GJ (g : Nat → Int32) (J : SJ) : Prop := g 3 = iI (jN J : Int) ∧ g 2 = iI (jK J : Int) ∧ ∀ j, j < jK J → g (57 + j) = iI (jD J (jN J - jK J + j)) ∧ g (77 + j) = iI (jC J (jN J - jK J + j)) ∧ g (97 + j) = iI (jA J (jN J - jK J + j)) ∧ g (117 + j) = iI (jH J (jN J - jK J + j)) ∧ g (137 + j) = iI (jM J (jN J - jK J + j))
def GP (g : Nat → Int32) (h : Nat) (P : SP) : Prop := g 4 = iI (P.length : Int) ∧ ∀ (j : Nat) (x : SPe), P[j]? = some x → g (157 + j) = iI x.1 ∧ g (163 + j) = iI x.2.1 ∧ g (169 + j) = iI x.2.2.1 ∧ g (175 + j) = iI x.2.2.2.1 ∧ g (181 + j) = iI x.2.2.2.2.1 ∧ g (187 + j) = iI ((h : Int) + x.2.2.2.2.2 - x.2.2.2.1)
def GL (g : Nat → Int32) (L : SL) : Prop := g 5 = iI (L.length : Int) ∧ ∀ (j : Nat) (x : Int × Int), L[j]? = some x → g (193 + j) = iI x.1 ∧ g (201 + j) = iI x.2
def GB (g : Nat → Int32) (B : SB) : Prop := g 6 = iI (B.1.length : Int) ∧ g 7 = iI (B.2 : Int) ∧ ∀ (j : Nat) (x : Int × Int), B.1[j]? = some x → g (209 + j) = iI x.1 ∧ g (219 + j) = iI x.2
def GG (g : Nat → Int32) (S : SG) : Prop := GA g (gA S) ∧ GJ g (gJ S) ∧ GP g (gH S) (gP S) ∧ GL g (gL S) ∧ GB g (gB S) ∧ g 0 = iI (gH S : Int) ∧ g 8 = iI (gC S : Int)
theorem lt_len {α : Type} {P : List α} {j : Nat} {x : α} (h : P[j]? = some x) : j < P.length := (List.getElem?_eq_some_iff.mp h).1
section FR
variable {g g' : Nat → Int32}
theorem GA.of {A : SA} (h : GA g A) (hn : aN A ≤ 12) (he : ∀ k, k = 1 ∨ (9 ≤ k ∧ k < 57) → g' k = g k) : GA g' A := by
  refine ⟨by rw [he _ (by omega)]; exact h.1, fun i hi => ?_, fun i hi => ?_⟩
  · rw [he _ (by omega), he _ (by omega)]; exact h.2.1 i hi
  · rw [he _ (by omega), he _ (by omega)]; exact h.2.2 i hi
theorem jK_le (J : SJ) : jK J ≤ 20 := by unfold jK; omega
theorem GJ.of {J : SJ} (h : GJ g J) (he : ∀ k, k = 2 ∨ k = 3 ∨ (57 ≤ k ∧ k < 157) → g' k = g k) : GJ g' J := by
  have := jK_le J
  refine ⟨by rw [he _ (by omega)]; exact h.1, by rw [he _ (by omega)]; exact h.2.1, fun i hi => ?_⟩
  rw [he _ (by omega), he _ (by omega), he _ (by omega), he _ (by omega), he _ (by omega)]; exact h.2.2 i hi
theorem GP.of {t : Nat} {P : SP} (h : GP g t P) (hn : P.length ≤ 6) (he : ∀ k, k = 4 ∨ (157 ≤ k ∧ k < 193) → g' k = g k) : GP g' t P := by
  refine ⟨by rw [he _ (by omega)]; exact h.1, fun j x hx => ?_⟩
  have := lt_len hx
  rw [he _ (by omega), he _ (by omega), he _ (by omega), he _ (by omega), he _ (by omega), he _ (by omega)]; exact h.2 j x hx
theorem GL.of {L : SL} (h : GL g L) (hn : L.length ≤ 8) (he : ∀ k, k = 5 ∨ (193 ≤ k ∧ k < 209) → g' k = g k) : GL g' L := by
  refine ⟨by rw [he _ (by omega)]; exact h.1, fun j x hx => ?_⟩
  have := lt_len hx
  rw [he _ (by omega), he _ (by omega)]; exact h.2 j x hx
theorem GB.of {B : SB} (h : GB g B) (hn : B.1.length ≤ 10) (he : ∀ k, k = 6 ∨ k = 7 ∨ (209 ≤ k ∧ k < 229) → g' k = g k) : GB g' B := by
  refine ⟨by rw [he _ (by omega)]; exact h.1, by rw [he _ (by omega)]; exact h.2.1, fun j x hx => ?_⟩
  have := lt_len hx
  rw [he _ (by omega), he _ (by omega)]; exact h.2.2 j x hx
end FR
theorem m_in (N : Nat) {a b c : Int} (ha : -2147483648 ≤ a ∧ a < 2147483648) (hb : -2147483648 ≤ b ∧ b < 2147483648) (hc : -2147483648 ≤ c ∧ c < 2147483648) : fX13_in N (iI a) (iI b) (iI c) = some (iB (decide (b ≤ a ∧ a ≤ c))) := c_within N ha hb hc
theorem m_isKind (N : Nat) {a : Int} (ha : -2147483648 ≤ a ∧ a < 2147483648) : fX13_isKind N (iI a) = some (iB (isKdB a)) := c_isKind N ha
theorem m_done (N : Nat) (v : Int32) (s : MS) : fX13_done N v s = some (v, Ms12 s (iI 0)) := rfl
theorem m_fails (N : Nat) (v : Int32) (s : MS) : fX13_fails N v s = some (iI 0, Ms12 s v) := rfl
section MA
variable {s : MS} {A : SA}
theorem GA.k {g : Nat → Int32} (h : GA g A) {i : Nat} (hi : i < aN A) : g (9 + i) = iI (aK A i) := (h.2.1 i hi).1
theorem GA.p {g : Nat → Int32} (h : GA g A) {i : Nat} (hi : i < aN A) : g (21 + i) = iI (aP A i + 1) := (h.2.1 i hi).2
theorem GA.d {g : Nat → Int32} (h : GA g A) {i : Nat} (hi : i < 12) : g (33 + i) = iI (aD A i) := (h.2.2 i hi).1
theorem GA.c {g : Nat → Int32} (h : GA g A) {i : Nat} (hi : i < 12) : g (45 + i) = iI (aC A i) := (h.2.2 i hi).2
theorem m_isAccount (N : Nat) (h : GA s.1 A) (hn : aN A ≤ 12) {z : Int} (hz : -2147483648 ≤ z ∧ z < 2147483648) : fX13_isAccount N (iI z) s = some (iB (decide (0 ≤ z ∧ z < aN A))) := by
  unfold fX13_isAccount
  rw [h.1]
  simp (disch := omega) only [xlet, xjoin, xnz_b0, xnz_b1, xnz_b, xcall_s, i_lit, i_add, i_sub, i_mul, i_neg, m_in]
  congr 2
  exact decide_eq_decide.mpr (by omega)
theorem m_bal (N : Nat) (h : GA s.1 A) (w : WA A) {i : Nat} (hi : i < aN A) : fX13_balanceOf N (iI (i : Int)) s = some (iI (bal A i)) := by
  have := w.2.1
  have := w.rk hi
  unfold fX13_balanceOf bal
  simp (disch := omega) only [xlet, xjoin, xnz_b0, xnz_b1, xnz_b, xcall_s, i_lit, i_add, xrd_ln, h.k hi, h.d (show i < 12 by omega), h.c (show i < 12 by omega), i_lit, i_add, i_sub, i_mul, i_neg, i_le, i_lt, i_eq, l_cmp0, l_cmplt, l_cmpgt, l_cmple, l_cmpge, b_zero, b_one, decide_eq_false_iff_not, decide_eq_true_eq]
  by_cases h1 : aK A i = 97
  · simp [h1]
  · by_cases h2 : aK A i = 101
    · simp [h2]
    · simp [h1, h2]
theorem m_profitNow {N : Nat} (hN : 2000 ≤ N) (h : GA s.1 A) (w : WA A) : fX13_profitNow N s = some (iI (sumN (gainAt A) (aN A))) := by
  have := w.2.1
  unfold fX13_profitNow xjoin
  refine loopP (F := fun n v i => fX13_profitNow_L4 N s _ n v (iI (i : Int))) (I := fun v i => v = iI (sumN (gainAt A) i)) (m := aN A) (P := fun r => r = _) ?_ ?_ N 0 _ (by omega) (by omega) rfl
  · intro n v i hi hv
    refine .inr ⟨_, ?_, rfl⟩
    have := w.rk hi
    simp (disch := omega) only [fX13_profitNow_L4, m_bal N h w hi, h.1, xlet, xjoin, xnz_b0, xnz_b1, xnz_b, xcall_s, i_lit, i_add, xrd_ln, h.k hi, i_lit, i_add, i_sub, i_mul, i_neg, i_le, i_lt, i_eq, l_cmp0, l_cmplt, l_cmpgt, l_cmple, l_cmpge, b_zero, b_one, decide_eq_false_iff_not, decide_eq_true_eq, hv, i_succ, sumN, gainAt, bal]
    rw [if_neg (by omega)]
    by_cases h1 : aK A i = 105
    · rw [if_pos h1, if_neg (by omega), if_pos (Or.inl h1)]
      congr 2; omega
    · by_cases h2 : aK A i = 101
      · rw [if_neg h1, if_pos h2, if_pos (Or.inr h2), if_pos (Or.inr h2)]
        congr 2; omega
      · rw [if_neg h1, if_neg h2, if_neg (by omega)]
  · intro n v hv
    simp (disch := omega) only [fX13_profitNow_L4, h.1, i_le, i_lt, i_eq, l_cmp0, l_cmplt, l_cmpgt, l_cmple, l_cmpge, b_zero, b_one, decide_eq_false_iff_not, decide_eq_true_eq, hv]
    rw [if_pos (by omega)]
theorem m_isBelow {N : Nat} (hN : 2000 ≤ N) (h : GA s.1 A) (w : WA A) {i t : Nat} (hi : i < aN A) (ht : t < aN A) : fX13_isBelow N (iI (i : Int)) (iI (t : Int)) s = some (iB (below A t i)) := by
  have := w.2.1
  unfold fX13_isBelow xjoin
  refine loopM (F := fun n (v : Nat) => fX13_isBelow_L2 N s _ n (iI (t : Int)) (iI (v : Int))) (I := fun v => v < aN A ∧ below A t v = below A t i) (μ := fun v => v) (P := fun r => r = _) ?_ N i (by omega) ⟨hi, rfl⟩
  intro n v ⟨hv, he⟩
  have q := w.at hv
  rw [← he, below_step w hv]
  by_cases h1 : v ≤ t
  · left
    simp (disch := omega) only [fX13_isBelow_L2, xlet, xjoin, xnz_b0, xnz_b1, xnz_b, xcall_s, i_lit, i_add, i_sub, i_mul, i_neg, i_le, i_lt, i_eq, l_cmp0, l_cmplt, l_cmpgt, l_cmple, l_cmpge, b_zero, b_one, decide_eq_false_iff_not, decide_eq_true_eq]
    rw [if_pos (by omega), if_pos h1]
    by_cases h2 : v = t
    · rw [if_pos (by omega), decide_eq_true h2]; rfl
    · rw [if_neg (by omega), decide_eq_false h2]; rfl
  · rw [if_neg h1]
    by_cases h2 : aP A v < 0
    · left
      simp (disch := omega) only [fX13_isBelow_L2, xlet, xjoin, xnz_b0, xnz_b1, xnz_b, xcall_s, i_lit, i_add, xrd_ln, h.p hv, i_lit, i_add, i_sub, i_mul, i_neg, i_le, i_lt, i_eq, l_cmp0, l_cmplt, l_cmpgt, l_cmple, l_cmpge, b_zero, b_one, decide_eq_false_iff_not, decide_eq_true_eq]
      rw [if_neg (by omega), if_pos (by omega), if_neg (by omega), if_pos h2]; rfl
    · obtain ⟨p, hp⟩ := Int.eq_ofNat_of_zero_le (show 0 ≤ aP A v by omega)
      right
      rw [below_step w hv, if_neg h1, if_neg h2, hp, Int.toNat_natCast] at he
      refine ⟨p, ?_, ⟨by omega, by rw [if_neg h2, hp, Int.toNat_natCast]⟩, by omega⟩
      simp (disch := omega) only [fX13_isBelow_L2, xlet, xjoin, xnz_b0, xnz_b1, xnz_b, xcall_s, i_lit, i_add, xrd_ln, h.p hv, hp, i_lit, i_add, i_sub, i_mul, i_neg, i_le, i_lt, i_eq, l_cmp0, l_cmplt, l_cmpgt, l_cmple, l_cmpge, b_zero, b_one, decide_eq_false_iff_not, decide_eq_true_eq]
      rw [if_neg (by omega), if_neg (by omega)]
      congr 2; omega
theorem m_treeBalance {N : Nat} (hN : 2000 ≤ N) (h : GA s.1 A) (w : WA A) {t : Nat} (ht : t < aN A) : fX13_treeBalance N (iI (t : Int)) s = some ((iI (sTreeSum A t)).toInt64, Ms12 s (iI 0)) := by
  have := w.2.1
  unfold fX13_treeBalance
  rw [m_isAccount N h w.2.1 (by omega), decide_eq_true (by omega)]
  simp only [xlet, xjoin, xnz_b0, xnz_b1, xnz_b, xcall_s, i_lit, i_add, i_sub, i_mul, i_neg, b_zero]
  rw [if_neg (by decide)]
  refine loopP (F := fun n (v : Int32) k => fX13_treeBalance_L19 N _ n (iI (t : Int)) v (iI (k : Int)) s) (I := fun v k => v = iI (sumN (fun k => if below A t k = true then bal A k else 0) k)) (m := aN A) (P := fun r => r = _) ?_ ?_ N t _ (by omega) (by omega) (by rw [tree_low w ht])
  · intro n v k hk hv
    refine .inr ⟨_, ?_, rfl⟩
    simp (disch := omega) only [fX13_treeBalance_L19, h.1, xlet, xjoin, xnz_b0, xnz_b1, xnz_b, xcall_s, m_isBelow hN h w hk ht, m_bal N h w hk, i_lit, i_add, i_sub, i_mul, i_neg, i_le, i_lt, i_eq, l_cmp0, l_cmplt, l_cmpgt, l_cmple, l_cmpge, b_zero, b_one, decide_eq_false_iff_not, decide_eq_true_eq, hv, i_succ, sumN]
    rw [if_neg (by omega)]
    cases below A t k
    · rw [if_pos rfl, if_neg (by decide)]
    · rw [if_neg (by decide), if_pos rfl]
  · intro n v hv
    simp (disch := omega) only [fX13_treeBalance_L19, h.1, i_le, i_lt, i_eq, l_cmp0, l_cmplt, l_cmpgt, l_cmple, l_cmpge, b_zero, b_one, decide_eq_false_iff_not, decide_eq_true_eq, hv, m_done, xcall_s]
    rw [if_pos (by omega)]
    rfl
theorem m_treeSize {N : Nat} (hN : 2000 ≤ N) (h : GA s.1 A) (w : WA A) {t : Nat} (ht : t < aN A) : fX13_treeSize N (iI (t : Int)) s = some (iI (sTreeSize A t), Ms12 s (iI 0)) := by
  have := w.2.1
  unfold fX13_treeSize
  rw [m_isAccount N h w.2.1 (by omega), decide_eq_true (by omega)]
  simp only [xlet, xjoin, xnz_b0, xnz_b1, xnz_b, xcall_s, i_lit, i_add, i_sub, i_mul, i_neg, b_zero]
  rw [if_neg (by decide)]
  refine loopP (F := fun n (v : Int32) k => fX13_treeSize_L18 N _ n (iI (t : Int)) v (iI (k : Int)) s) (I := fun v k => v = iI (sumN (fun k => if below A t k = true then 1 else 0) k)) (m := aN A) (P := fun r => r = _) ?_ ?_ N t _ (by omega) (by omega) (by rw [tree_low w ht])
  · intro n v k hk hv
    refine .inr ⟨_, ?_, rfl⟩
    simp (disch := omega) only [fX13_treeSize_L18, h.1, xlet, xjoin, xnz_b0, xnz_b1, xnz_b, xcall_s, m_isBelow hN h w hk ht, i_lit, i_add, i_sub, i_mul, i_neg, i_le, i_lt, i_eq, l_cmp0, l_cmplt, l_cmpgt, l_cmple, l_cmpge, b_zero, b_one, decide_eq_false_iff_not, decide_eq_true_eq, hv, i_succ, sumN]
    rw [if_neg (by omega)]
    cases below A t k
    · rw [if_pos rfl, if_neg (by decide)]
    · rw [if_neg (by decide), if_pos rfl]
  · intro n v hv
    simp (disch := omega) only [fX13_treeSize_L18, h.1, i_le, i_lt, i_eq, l_cmp0, l_cmplt, l_cmpgt, l_cmple, l_cmpge, b_zero, b_one, decide_eq_false_iff_not, decide_eq_true_eq, hv, m_done, xcall_s]
    rw [if_pos (by omega)]
    rfl
theorem m_sumOfDebits {N : Nat} (hN : 2000 ≤ N) (h : GA s.1 A) (w : WA A) : fX13_sumOfDebits N s = some ((iI (sumN (aD A) (aN A))).toInt64, Ms12 s (iI 0)) := by
  have := w.2.1
  unfold fX13_sumOfDebits xjoin
  refine loopP (F := fun n (v : Int32) k => fX13_sumOfDebits_L4 N _ n v (iI (k : Int)) s) (I := fun v k => v = iI (sumN (aD A) k)) (m := aN A) (P := fun r => r = _) ?_ ?_ N 0 _ (by omega) (by omega) rfl
  · intro n v k hk hv
    refine .inr ⟨_, ?_, rfl⟩
    simp (disch := omega) only [fX13_sumOfDebits_L4, h.1, xlet, xjoin, xnz_b0, xnz_b1, xnz_b, xcall_s, i_lit, i_add, xrd_ln, h.d (show k < 12 by omega), i_lit, i_add, i_sub, i_mul, i_neg, i_le, i_lt, i_eq, l_cmp0, l_cmplt, l_cmpgt, l_cmple, l_cmpge, b_zero, b_one, decide_eq_false_iff_not, decide_eq_true_eq, hv, i_succ, sumN]
    rw [if_neg (by omega)]
  · intro n v hv
    simp (disch := omega) only [fX13_sumOfDebits_L4, h.1, i_le, i_lt, i_eq, l_cmp0, l_cmplt, l_cmpgt, l_cmple, l_cmpge, b_zero, b_one, decide_eq_false_iff_not, decide_eq_true_eq, hv, m_done, xcall_s]
    rw [if_pos (by omega)]
theorem m_isRicher (N : Nat) (h : GA s.1 A) (w : WA A) {o i : Nat} (ho : o < aN A) (hi : i < aN A) : fX13_isRicher N (iI (o : Int)) (iI (i : Int)) s = some (iB (richB A o i)) := by
  have := w.2.1
  have q1 := bal_rng w ho
  have q2 := bal_rng w hi
  unfold fX13_isRicher
  simp (disch := omega) only [m_bal N h w ho, m_bal N h w hi, xlet, xjoin, xnz_b0, xnz_b1, xnz_b, xcall_s, i_lit, i_add, i_sub, i_mul, i_neg, i_le, i_lt, i_eq, l_cmp0, l_cmplt, l_cmpgt, l_cmple, l_cmpge, b_zero, b_one, decide_eq_false_iff_not, decide_eq_true_eq]
  unfold richB
  by_cases h1 : bal A i < bal A o
  · rw [if_pos (by omega)]; simp [h1, b_t]
  · by_cases h2 : bal A o = bal A i
    · by_cases h3 : o < i
      · rw [if_neg (by omega), if_pos (by omega), if_neg (by omega)]; simp [h2, h3, b_t]
      · rw [if_neg (by omega), if_pos (by omega), if_pos (by omega)]; simp [h2, h3, b_f]
    · rw [if_neg (by omega), if_neg (by omega)]
      have h4 : ¬ bal A i = bal A o := fun e => h2 e.symm
      simp [h1, h4, b_f]
theorem m_rankLoop {N : Nat} (hN : 2000 ≤ N) (h : GA s.1 A) (w : WA A) {i : Nat} (hi : i < aN A) (r : Int32) (K : Int32 → Int32 → Int32 → MS → Option (Int32 × MS)) : fX13_accountByBalance_L17 N K N r (iI (i : Int)) (iI 0) (iI 0) s = K r (iI (i : Int)) (iI (sRank A i)) s := by
  have := w.2.1
  refine loopP (F := fun n (v : Int32) k => fX13_accountByBalance_L17 N K n r (iI (i : Int)) v (iI (k : Int)) s) (I := fun v k => v = iI (sumN (fun o => if richB A o i = true then 1 else 0) k)) (m := aN A) (P := fun x => x = _) ?_ ?_ N 0 _ (by omega) (by omega) rfl
  · intro n v k hk hv
    refine .inr ⟨_, ?_, rfl⟩
    simp (disch := omega) only [fX13_accountByBalance_L17, h.1, xlet, xjoin, xnz_b0, xnz_b1, xnz_b, xcall_s, m_isRicher N h w hk hi, i_lit, i_add, i_sub, i_mul, i_neg, i_le, i_lt, i_eq, l_cmp0, l_cmplt, l_cmpgt, l_cmple, l_cmpge, b_zero, b_one, decide_eq_false_iff_not, decide_eq_true_eq, hv, i_succ, sumN]
    rw [if_neg (by omega)]
    cases richB A k i
    · rw [if_pos rfl, if_neg (by decide)]
    · rw [if_neg (by decide), if_pos rfl]
  · intro n v hv
    simp (disch := omega) only [fX13_accountByBalance_L17, h.1, i_le, i_lt, i_eq, l_cmp0, l_cmplt, l_cmpgt, l_cmple, l_cmpge, b_zero, b_one, decide_eq_false_iff_not, decide_eq_true_eq, hv]
    rw [if_pos (by omega)]
    rfl
theorem m_accountByBalance {N : Nat} (hN : 2000 ≤ N) (h : GA s.1 A) (w : WA A) {r : Int} (hr : -2147483648 ≤ r ∧ r < 2147483648) : ∀ i, (∀ j, j < i → ¬ sRank A j = r) → i < aN A → sRank A i = r → fX13_accountByBalance N (iI r) s = some (iI (i : Int), Ms12 s (iI 0)) := by
  intro i hj hi he
  have := w.2.1
  unfold fX13_accountByBalance xjoin
  refine loopP (F := fun n (_ : Unit) k => fX13_accountByBalance_L2 N _ n (iI r) (iI (k : Int)) s) (I := fun _ k => k ≤ i) (m := aN A) (P := fun r => r = _) ?_ ?_ N 0 () (by omega) (by omega) (by omega)
  · intro n v k hk hv
    have q := sRank_rng (A := A) k
    by_cases h1 : k = i
    · left
      subst h1
      simp (disch := omega) only [fX13_accountByBalance_L2, h.1, xlet, xjoin, xnz_b0, xnz_b1, xnz_b, xcall_s, i_lit, i_add, i_sub, i_mul, i_neg, i_le, i_lt, i_eq, l_cmp0, l_cmplt, l_cmpgt, l_cmple, l_cmpge, b_zero, b_one, decide_eq_false_iff_not, decide_eq_true_eq, m_rankLoop hN h w hk, m_done]
      rw [if_neg (by omega), if_pos he]
    · refine .inr ⟨(), ?_, by omega⟩
      simp (disch := omega) only [fX13_accountByBalance_L2, h.1, xlet, xjoin, xnz_b0, xnz_b1, xnz_b, xcall_s, i_lit, i_add, i_sub, i_mul, i_neg, i_le, i_lt, i_eq, l_cmp0, l_cmplt, l_cmpgt, l_cmple, l_cmpge, b_zero, b_one, decide_eq_false_iff_not, decide_eq_true_eq, m_rankLoop hN h w hk, i_succ]
      rw [if_neg (by omega), if_neg (hj k (by omega))]
  · intro n v hv
    exact absurd hv (by omega)
theorem m_accountByBalance_no {N : Nat} (hN : 2000 ≤ N) (h : GA s.1 A) (w : WA A) {r : Int} (hr : -2147483648 ≤ r ∧ r < 2147483648) (hj : ∀ j, j < aN A → ¬ sRank A j = r) : fX13_accountByBalance N (iI r) s = some (iI 0, Ms12 s (iI 1)) := by
  have := w.2.1
  unfold fX13_accountByBalance xjoin
  refine loopP (F := fun n (_ : Unit) k => fX13_accountByBalance_L2 N _ n (iI r) (iI (k : Int)) s) (I := fun _ k => True) (m := aN A) (P := fun r => r = _) ?_ ?_ N 0 () (by omega) (by omega) trivial
  · intro n v k hk hv
    have q := sRank_rng (A := A) k
    refine .inr ⟨(), ?_, trivial⟩
    simp (disch := omega) only [fX13_accountByBalance_L2, h.1, xlet, xjoin, xnz_b0, xnz_b1, xnz_b, xcall_s, i_lit, i_add, i_sub, i_mul, i_neg, i_le, i_lt, i_eq, l_cmp0, l_cmplt, l_cmpgt, l_cmple, l_cmpge, b_zero, b_one, decide_eq_false_iff_not, decide_eq_true_eq, m_rankLoop hN h w hk, i_succ]
    rw [if_neg (by omega), if_neg (hj k hk)]
  · intro n v hv
    simp (disch := omega) only [fX13_accountByBalance_L2, h.1, xlet, xjoin, xnz_b0, xnz_b1, xnz_b, xcall_s, i_lit, i_add, i_sub, i_mul, i_neg, i_le, i_lt, i_eq, l_cmp0, l_cmplt, l_cmpgt, l_cmple, l_cmpge, b_zero, b_one, decide_eq_false_iff_not, decide_eq_true_eq, m_fails]
    rw [if_pos (by omega)]
end MA
