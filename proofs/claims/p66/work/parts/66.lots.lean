/-! ===== lots of costumes ===== -/
def AR2 (f1 f2 : Nat → Int32) (L : List (Int × Int)) : Prop := ∀ (j : Nat) (x : Int × Int), L[j]? = some x → f1 j = iI x.1 ∧ f2 j = iI x.2
def RW (w : WarS) (L : SL) : Prop := w.2.2 = iI (L.length : Int) ∧ AR2 w.1 w.2.1 L
def WL (L : SL) : Prop := L.length ≤ 8 ∧ ∀ x ∈ L, 1 ≤ x.1 ∧ x.1 ≤ 20 ∧ 1 ≤ x.2 ∧ x.2 ≤ 40
def lSum : List (Int × Int) → Int
  | [] => 0
  | x :: r => x.1 + lSum r
def sCost : Int → SL → Int
  | _, [] => 0
  | k, x :: r => min k x.1 * x.2 + sCost (k - min k x.1) r
def sTake : Int → SL → SL
  | _, [] => []
  | k, x :: r => if min k x.1 < x.1 then (x.1 - min k x.1, x.2) :: sTake (k - min k x.1) r else sTake (k - min k x.1) r
def sPrice : Int → SL → Int
  | _, [] => 0
  | q, x :: r => if q < x.1 then x.2 else sPrice (q - x.1) r
theorem drop_at {α : Type} {L : List α} {i : Nat} (hi : i < L.length) : ∃ x, L[i]? = some x ∧ L.drop i = x :: L.drop (i + 1) ∧ x ∈ L := ⟨L[i], List.getElem?_eq_getElem hi, List.drop_eq_getElem_cons hi, List.getElem_mem hi⟩
theorem WL.tail {x : Int × Int} {L : SL} (h : WL (x :: L)) : WL L := ⟨by have := h.1; simp only [List.length_cons] at this; omega, fun y hy => h.2 y (List.mem_cons_of_mem _ hy)⟩
theorem lSum_rng {L : SL} (h : WL L) : 0 ≤ lSum L ∧ lSum L ≤ 20 * L.length := by
  induction L with
  | nil => exact ⟨Int.le_refl _, Int.le_refl _⟩
  | cons x r ih =>
    have := ih h.tail
    have := h.2 x List.mem_cons_self
    rw [lSum, List.length_cons]
    omega
theorem sCost_rng {L : SL} (h : WL L) : ∀ k, 0 ≤ k → 0 ≤ sCost k L ∧ sCost k L ≤ 800 * L.length := by
  induction L with
  | nil => intro k _; exact ⟨Int.le_refl _, Int.le_refl _⟩
  | cons x r ih =>
    intro k hk
    have q := h.2 x List.mem_cons_self
    have := ih h.tail (k - min k x.1) (by omega)
    rw [sCost, List.length_cons]
    have a0 : 0 ≤ min k x.1 := by omega
    have a1 : min k x.1 ≤ 20 := by omega
    have b0 : 0 ≤ min k x.1 * x.2 := Int.mul_nonneg a0 (by omega)
    have b1 : min k x.1 * x.2 ≤ 20 * 40 := Int.mul_le_mul a1 (by omega) (by omega) (by omega)
    omega
theorem sPrice_rng {L : SL} (h : WL L) : ∀ q, 0 ≤ sPrice q L ∧ sPrice q L ≤ 40 := by
  induction L with
  | nil => intro q; exact ⟨Int.le_refl _, by show (0 : Int) ≤ 40; decide⟩
  | cons x r ih =>
    intro q
    have := h.2 x List.mem_cons_self
    rw [sPrice]
    split
    · omega
    · exact ih h.tail _
theorem sumN_shift (f g : Nat → Int) (c : Nat) : ∀ n, (∀ i, f (c + i) = g i) → sumF f c n = sumF g 0 n := by
  have e : ∀ n i, (∀ i, f (c + i) = g i) → sumF f (c + i) n = sumF g i n := by
    intro n
    induction n with
    | zero => intro i _; rfl
    | succ n ih => intro i h; rw [sumF, sumF, h i, show c + i + 1 = c + (i + 1) by omega, ih (i + 1) h]
  intro n h
  have := e n 0 h
  simpa using this
theorem sumN_const (f : Nat → Int) (v : Int) : ∀ n, (∀ i, i < n → f i = v) → sumN f n = n * v := by
  intro n
  induction n with
  | zero => intro _; simp [sumN]
  | succ n ih => intro h; rw [sumN, ih (fun i hi => h i (by omega)), h n (by omega)]; rw [Int.natCast_succ, Int.add_mul, Int.one_mul]
theorem cost_one {L : SL} (h : WL L) : ∀ k : Nat, sumN (fun q => sPrice (q : Int) L) k = sCost k L := by
  induction L with
  | nil => intro k; exact sumN_zero k fun i _ => rfl
  | cons x r ih =>
    intro k
    have q := h.2 x List.mem_cons_self
    obtain ⟨c, hc⟩ := Int.eq_ofNat_of_zero_le (show 0 ≤ x.1 by omega)
    rw [sCost, hc]
    by_cases hk : k ≤ c
    · rw [Int.min_eq_left (by omega), Int.sub_self]
      have e : sCost 0 r = 0 := by rw [show (0 : Int) = ((0 : Nat) : Int) from rfl, ← ih h.tail 0]; rfl
      rw [e, Int.add_zero]
      apply sumN_const
      intro i hi
      rw [sPrice, hc, if_pos (by omega)]
    · rw [Int.min_eq_right (by omega)]
      obtain ⟨d, rfl⟩ := Nat.exists_eq_add_of_le (show c ≤ k by omega)
      rw [sumF_N, sumN_const (fun q => sPrice (q : Int) (x :: r)) x.2 c (fun i hi => by show sPrice _ _ = _; rw [sPrice, hc, if_pos (by omega)])]
      rw [sumN_shift (fun q => sPrice (q : Int) (x :: r)) (fun q => sPrice (q : Int) r) c d (fun i => by show sPrice _ _ = _; rw [sPrice, hc, if_neg (by omega)]; congr 1; omega)]
      rw [sumF_0, ih h.tail d]
      congr 2
      omega
theorem sTake_0 {L : SL} (h : WL L) : sTake 0 L = L := by
  induction L with
  | nil => rfl
  | cons x r ih =>
    have q := h.2 x List.mem_cons_self
    rw [sTake, Int.min_eq_left (by omega), if_pos (by omega), Int.sub_zero, Int.sub_self, ih h.tail]
theorem sTake_W {L : SL} (h : WL L) : ∀ k, 0 ≤ k → WL (sTake k L) ∧ (sTake k L).length ≤ L.length := by
  induction L with
  | nil => intro k _; exact ⟨h, Nat.le_refl _⟩
  | cons x r ih =>
    intro k hk
    have q := h.2 x List.mem_cons_self
    obtain ⟨w, l⟩ := ih h.tail (k - min k x.1) (by omega)
    rw [sTake]
    split
    · refine ⟨⟨?_, ?_⟩, ?_⟩
      · have := h.1; simp only [List.length_cons] at this ⊢; omega
      · intro y hy
        rcases List.mem_cons.mp hy with rfl | hy
        · simp only; omega
        · exact w.2 y hy
      · simp only [List.length_cons]; omega
    · exact ⟨w, by simp only [List.length_cons]; omega⟩
section CW
variable {w v : WarS} {L : SL}
theorem c_warCopy (N : Nat) (h : RW v L) (hl : L.length ≤ 8) : ∃ w', fX11_copyFrom N w v = some (w', v) ∧ RW w' L := by
  refine ⟨_, rfl, h.1, fun j x hx => ?_⟩
  have := h.2 j x hx
  have := lt_len hx
  simp only [xlet, cpy_at (show j < 8 by omega)]
  assumption
theorem c_costumes {N : Nat} (hN : 2000 ≤ N) (h : RW w L) (hl : L.length ≤ 8) : fX11_costumes N w = some (iI (lSum L)) := by
  unfold fX11_costumes xjoin
  refine loopP (F := fun n (z : Int) i => fX11_costumes_L4 N w _ n (iI z) (iI (i : Int))) (I := fun z i => z + lSum (L.drop i) = lSum L) (m := L.length) (P := fun r => r = _) ?_ ?_ N 0 0 (by omega) (by omega) (by simp)
  · intro n z i hi hz
    obtain ⟨x, hx, hd, -⟩ := drop_at hi
    refine .inr ⟨z + x.1, ?_, by rw [← hz, hd, lSum]; omega⟩
    simp (disch := omega) only [fX11_costumes_L4, h.1, xlet, xjoin, xnz_b0, xnz_b1, xnz_b, xcall_s, xrd_n, (h.2 i x hx).1, i_lit, i_add, i_sub, i_mul, i_neg, i_le, i_lt, i_eq, l_cmp0, l_cmplt, l_cmpgt, l_cmple, l_cmpge, b_zero, b_one, decide_eq_false_iff_not, decide_eq_true_eq, i_succ]
    rw [if_neg (by omega)]
  · intro n z hz
    rw [List.drop_eq_nil_of_le (Nat.le_refl _), lSum, Int.add_zero] at hz
    simp (disch := omega) only [fX11_costumes_L4, h.1, i_le, i_lt, i_eq, l_cmp0, l_cmplt, l_cmpgt, l_cmple, l_cmpge, b_zero, b_one, decide_eq_false_iff_not, decide_eq_true_eq, hz]
    rw [if_pos (by omega)]
theorem c_costByLots {N : Nat} (hN : 2000 ≤ N) (h : RW w L) (hw : WL L) {k : Int} (hk : 0 ≤ k ∧ k < 2147483648) : fX11_costByLots N (iI k) w = some (iI (sCost k L)) := by
  have hl := hw.1
  unfold fX11_costByLots xjoin
  refine loopP (F := fun n (z : Int × Int) i => fX11_costByLots_L7 N w _ n (iI z.1) (iI z.2) (iI (i : Int))) (I := fun z i => 0 ≤ z.1 ∧ z.1 < 2147483648 ∧ z.2 + sCost z.1 (L.drop i) = sCost k L) (m := L.length) (P := fun r => r = _) ?_ ?_ N 0 (k, 0) (by omega) (by omega) (by simp [hk])
  · intro n ⟨z, c⟩ i hi ⟨h0, h1, hz⟩
    simp only at h0 h1 hz ⊢
    obtain ⟨x, hx, hd, hm⟩ := drop_at hi
    have q := hw.2 x hm
    refine .inr ⟨(z - min z x.1, c + min z x.1 * x.2), ?_, by simp only; omega, by simp only; omega, by rw [← hz, hd, sCost]; simp only; omega⟩
    simp (disch := omega) only [fX11_costByLots_L7, h.1, xlet, xjoin, xnz_b0, xnz_b1, xnz_b, xcall_s, xrd_n, (h.2 i x hx).1, (h.2 i x hx).2, c_min, i_lit, i_add, i_sub, i_mul, i_neg, i_le, i_lt, i_eq, l_cmp0, l_cmplt, l_cmpgt, l_cmple, l_cmpge, b_zero, b_one, decide_eq_false_iff_not, decide_eq_true_eq, i_succ]
    rw [if_neg (by omega)]
  · intro n ⟨z, c⟩ ⟨h0, h1, hz⟩
    simp only at h0 h1 hz ⊢
    rw [List.drop_eq_nil_of_le (Nat.le_refl _), sCost, Int.add_zero] at hz
    simp (disch := omega) only [fX11_costByLots_L7, h.1, i_le, i_lt, i_eq, l_cmp0, l_cmplt, l_cmpgt, l_cmple, l_cmpge, b_zero, b_one, decide_eq_false_iff_not, decide_eq_true_eq, hz]
    rw [if_pos (by omega)]
theorem c_price {N : Nat} (hN : 2000 ≤ N) (h : RW w L) (hw : WL L) {q : Int} (hq : 0 ≤ q ∧ q < 2147483648) : fX11_priceOfCostume N (iI q) w = some (iI (sPrice q L)) := by
  have hl := hw.1
  unfold fX11_priceOfCostume xjoin
  refine loopP (F := fun n (z : Int) i => fX11_priceOfCostume_L4 N w _ n (iI z) (iI (i : Int))) (I := fun z i => 0 ≤ z ∧ z < 2147483648 ∧ sPrice z (L.drop i) = sPrice q L) (m := L.length) (P := fun r => r = _) ?_ ?_ N 0 q (by omega) (by omega) (by simp [hq])
  · intro n z i hi ⟨h0, h1, hz⟩
    obtain ⟨x, hx, hd, hm⟩ := drop_at hi
    have q' := hw.2 x hm
    rw [hd, sPrice] at hz
    by_cases hc : z < x.1
    · left
      rw [if_pos hc] at hz
      simp (disch := omega) only [fX11_priceOfCostume_L4, h.1, xlet, xjoin, xnz_b0, xnz_b1, xnz_b, xcall_s, xrd_n, (h.2 i x hx).1, (h.2 i x hx).2, i_lit, i_add, i_sub, i_mul, i_neg, i_le, i_lt, i_eq, l_cmp0, l_cmplt, l_cmpgt, l_cmple, l_cmpge, b_zero, b_one, decide_eq_false_iff_not, decide_eq_true_eq, i_succ]
      rw [if_neg (by omega), if_neg (by omega), hz]
    · rw [if_neg hc] at hz
      refine .inr ⟨z - x.1, ?_, by omega, by omega, hz⟩
      simp (disch := omega) only [fX11_priceOfCostume_L4, h.1, xlet, xjoin, xnz_b0, xnz_b1, xnz_b, xcall_s, xrd_n, (h.2 i x hx).1, (h.2 i x hx).2, i_lit, i_add, i_sub, i_mul, i_neg, i_le, i_lt, i_eq, l_cmp0, l_cmplt, l_cmpgt, l_cmple, l_cmpge, b_zero, b_one, decide_eq_false_iff_not, decide_eq_true_eq, i_succ]
      rw [if_neg (by omega), if_pos (by omega)]
  · intro n z ⟨h0, h1, hz⟩
    rw [List.drop_eq_nil_of_le (Nat.le_refl _), sPrice] at hz
    simp (disch := omega) only [fX11_priceOfCostume_L4, h.1, i_le, i_lt, i_eq, l_cmp0, l_cmplt, l_cmpgt, l_cmple, l_cmpge, b_zero, b_one, decide_eq_false_iff_not, decide_eq_true_eq, ← hz]
    rw [if_pos (by omega)]
    rfl
theorem c_costOneByOne {N : Nat} (hN : 2000 ≤ N) (h : RW w L) (hw : WL L) {k : Nat} (hk : k ≤ 20) : fX11_costOneByOne N (iI (k : Int)) w = some (iI (sCost k L)) := by
  rw [← cost_one hw k]
  unfold fX11_costOneByOne xjoin
  refine loopP (F := fun n (z : Int32) i => fX11_costOneByOne_L4 N w _ n (iI (k : Int)) z (iI (i : Int))) (I := fun z i => z = iI (sumN (fun q => sPrice (q : Int) L) i)) (m := k) (P := fun r => r = _) ?_ ?_ N 0 _ (by omega) (by omega) rfl
  · intro n z i hi hz
    refine .inr ⟨_, ?_, rfl⟩
    simp (disch := omega) only [fX11_costOneByOne_L4, xlet, xjoin, xnz_b0, xnz_b1, xnz_b, xcall_s, c_price hN h hw (q := (i : Int)) (by omega), i_lit, i_add, i_sub, i_mul, i_neg, i_le, i_lt, i_eq, l_cmp0, l_cmplt, l_cmpgt, l_cmple, l_cmpge, b_zero, b_one, decide_eq_false_iff_not, decide_eq_true_eq, i_succ, hz, sumN]
    rw [if_neg (by omega)]
  · intro n z hz
    simp (disch := omega) only [fX11_costOneByOne_L4, i_le, i_lt, i_eq, l_cmp0, l_cmplt, l_cmpgt, l_cmple, l_cmpge, b_zero, b_one, decide_eq_false_iff_not, decide_eq_true_eq, hz]
    rw [if_pos (by omega)]
theorem c_isTrade (N : Nat) {a b : Int} (ha : -2147483648 ≤ a ∧ a < 2147483648) (hb : -2147483648 ≤ b ∧ b < 2147483648) : fX11_isTrade N (iI a) (iI b) = some (iB (decide ((1 ≤ a ∧ a ≤ 20) ∧ (1 ≤ b ∧ b ≤ 40)))) := by
  unfold fX11_isTrade
  simp (disch := omega) only [xlet, xjoin, xnz_b0, xnz_b1, xnz_b, xcall_s, i_lit, i_add, i_sub, i_mul, i_neg, c_within, b_zero, decide_eq_false_iff_not]
  by_cases h1 : 1 ≤ a ∧ a ≤ 20
  · rw [if_neg (by simpa using h1)]
    by_cases h2 : 1 ≤ b ∧ b ≤ 40
    · rw [if_neg (by simpa using h2), decide_eq_true ⟨h1, h2⟩]; rfl
    · rw [if_pos h2, decide_eq_false (by omega)]; rfl
  · rw [if_pos h1, decide_eq_false (by omega)]; rfl
theorem c_fCount {N : Nat} (hN : 2000 ≤ N) (h : RW w L) (hw : WL L) {k : Int} (hk : -2147483648 ≤ k ∧ k < 2147483648) : fX11_faultOfCount N (iI k) w = some (if ¬ (1 ≤ k ∧ k ≤ 20) then 3 else if lSum L < k then 4 else 0) := by
  have := lSum_rng hw
  have := hw.1
  unfold fX11_faultOfCount
  simp (disch := omega) only [xlet, xjoin, xnz_b0, xnz_b1, xnz_b, xcall_s, i_lit, i_add, i_sub, i_mul, i_neg, c_within, c_costumes hN h hw.1, i_le, i_lt, i_eq, l_cmp0, l_cmplt, l_cmpgt, l_cmple, l_cmpge, b_zero, b_one, decide_eq_false_iff_not, decide_eq_true_eq]
  split
  · rfl
  · split <;> rfl
theorem c_fSell {N : Nat} (hN : 2000 ≤ N) (h : RW w L) (hw : WL L) {k p : Int} (hk : -2147483648 ≤ k ∧ k < 2147483648) (hp : -2147483648 ≤ p ∧ p < 2147483648) : fX11_faultOfSelling N (iI k) (iI p) w = some (if ¬ ((1 ≤ k ∧ k ≤ 20) ∧ (1 ≤ p ∧ p ≤ 40)) then 3 else if lSum L < k then 4 else 0) := by
  unfold fX11_faultOfSelling
  simp (disch := omega) only [xlet, xjoin, xnz_b0, xnz_b1, xnz_b, xcall_s, i_lit, i_add, i_sub, i_mul, i_neg, c_isTrade, c_fCount hN h hw hk, b_zero, decide_eq_false_iff_not]
  by_cases h1 : (1 ≤ k ∧ k ≤ 20) ∧ (1 ≤ p ∧ p ≤ 40)
  · have h1a := h1.1
    simp only [h1, h1a, and_self, not_true_eq_false, if_false]
  · rw [if_pos h1, if_pos h1]
theorem c_costsAgree {N : Nat} (hN : 2000 ≤ N) (h : RW w L) (hw : WL L) : fX11_costsAgree N w = some (iI 1) := by
  have := lSum_rng hw
  have := hw.1
  obtain ⟨k, hk⟩ := Int.eq_ofNat_of_zero_le (show 0 ≤ min (lSum L) 20 by omega)
  unfold fX11_costsAgree
  simp (disch := omega) only [xlet, xjoin, xnz_b0, xnz_b1, xnz_b, xcall_s, i_lit, i_add, i_sub, i_mul, i_neg, c_costumes hN h hw.1, c_min, hk, c_costByLots hN h hw (k := (k : Int)) (by omega), c_costOneByOne hN h hw (k := k) (by omega), if_true]
theorem c_lotAdd (N : Nat) (h : RW w L) (hl : L.length < 8) (k p : Int) : ∃ w', fX11_add N (iI k) (iI p) w = some w' ∧ RW w' (L ++ [(k, p)]) := by
  apply Exists.intro
  apply And.intro
  · unfold fX11_add
    simp (disch := omega) only [xlet, xjoin, xnz_b0, xnz_b1, xnz_b, xcall_s, h.1, xrd_n, i_lit, i_add, i_sub, i_mul, i_neg, i_le, i_lt, i_eq, l_cmp0, l_cmplt, l_cmpgt, l_cmple, l_cmpge, b_zero, b_one, decide_eq_false_iff_not, decide_eq_true_eq]
    rw [if_neg (by omega)]
  · refine ⟨by simp, fun j x hx => ?_⟩
    have := lt_len hx
    simp only [List.length_append, List.length_cons, List.length_nil] at this
    by_cases e : j < L.length
    · rw [List.getElem?_append_left e] at hx
      simp only [upd_ne (show j ≠ L.length by omega)]
      exact h.2 j x hx
    · have e : j = L.length := by omega
      subst e
      simp at hx
      subst hx
      simp only [upd_eq, and_self]
theorem AR2.app {f1 f2 : Nat → Int32} {L : List (Int × Int)} (h : AR2 f1 f2 L) (x : Int × Int) : AR2 (upd f1 L.length (iI x.1)) (upd f2 L.length (iI x.2)) (L ++ [x]) := fun j y hy => by
  have := lt_len hy
  simp only [List.length_append, List.length_cons, List.length_nil] at this
  by_cases e : j < L.length
  · rw [List.getElem?_append_left e] at hy
    rw [upd_ne (by omega), upd_ne (by omega)]
    exact h j y hy
  · have e : j = L.length := by omega
    subst e
    simp at hy
    subst hy
    rw [upd_eq, upd_eq]
    exact ⟨rfl, rfl⟩
theorem c_take {N : Nat} (hN : 2000 ≤ N) (h : RW w L) (hw : WL L) {k : Int} (hk : 0 ≤ k ∧ k < 2147483648) : ∃ w', fX11_take N (iI k) w = some w' ∧ RW w' (sTake k L) := by
  have hl := hw.1
  unfold fX11_take xjoin
  refine loopP (F := fun n (z : WarS × Int × SL) i => fX11_take_L7 N _ n (iI z.2.1) (iI (z.2.2.length : Int)) (iI (i : Int)) z.1) (I := fun z i => 0 ≤ z.2.1 ∧ z.2.1 < 2147483648 ∧ z.2.2 ++ sTake z.2.1 (L.drop i) = sTake k L ∧ z.2.2.length ≤ i ∧ z.1.2.2 = iI (L.length : Int) ∧ AR2 z.1.1 z.1.2.1 z.2.2 ∧ ∀ j x, i ≤ j → L[j]? = some x → z.1.1 j = iI x.1 ∧ z.1.2.1 j = iI x.2) (m := L.length) (P := fun r => ∃ w', r = some w' ∧ RW w' (sTake k L)) ?_ ?_ N 0 (w, k, []) (by omega) (by omega) ⟨hk.1, hk.2, by simp, by simp, h.1, fun j x hx => by simp at hx, fun j x _ hx => h.2 j x hx⟩
  · intro n ⟨w, z, o⟩ i hi ⟨h0, h1, h2, h3, h4, h5, h6⟩
    simp only at h0 h1 h2 h3 h4 h5 h6 ⊢
    obtain ⟨x, hx, hd, hm⟩ := drop_at hi
    have q := hw.2 x hm
    obtain ⟨g1, g2⟩ := h6 i x (by omega) hx
    rw [hd, sTake] at h2
    right
    by_cases hc : min z x.1 < x.1
    · rw [if_pos hc] at h2
      refine ⟨((upd w.1 o.length (iI (x.1 - min z x.1)), upd w.2.1 o.length (iI x.2), w.2.2), z - min z x.1, o ++ [(x.1 - min z x.1, x.2)]), ?_, by simp only; omega, by simp only; omega, by simpa using h2, by simp; omega, h4, AR2.app h5 (x.1 - min z x.1, x.2), fun j y hj hy => ?_⟩
      · simp (disch := omega) only [fX11_take_L7, h4, xlet, xjoin, xnz_b0, xnz_b1, xnz_b, xcall_s, xrd_n, g1, g2, c_min, i_lit, i_add, i_sub, i_mul, i_neg, i_le, i_lt, i_eq, l_cmp0, l_cmplt, l_cmpgt, l_cmple, l_cmpge, b_zero, b_one, decide_eq_false_iff_not, decide_eq_true_eq, i_succ]
        rw [if_neg (by omega), if_neg (by omega)]
        simp only [List.length_append, List.length_cons, List.length_nil, Nat.zero_add]
        rw [← h4]
      · simp only
        rw [upd_ne (by omega), upd_ne (by omega)]
        exact h6 j y (by omega) hy
    · rw [if_neg hc] at h2
      refine ⟨(w, z - min z x.1, o), ?_, by simp only; omega, by simp only; omega, h2, by simp only; omega, h4, h5, fun j y hj hy => h6 j y (by omega) hy⟩
      simp (disch := omega) only [fX11_take_L7, h4, xlet, xjoin, xnz_b0, xnz_b1, xnz_b, xcall_s, xrd_n, g1, g2, c_min, i_lit, i_add, i_sub, i_mul, i_neg, i_le, i_lt, i_eq, l_cmp0, l_cmplt, l_cmpgt, l_cmple, l_cmpge, b_zero, b_one, decide_eq_false_iff_not, decide_eq_true_eq, i_succ]
      rw [if_neg (by omega), if_pos (by omega)]
  · intro n ⟨w, z, o⟩ ⟨h0, h1, h2, h3, h4, h5, h6⟩
    simp only at h0 h1 h2 h3 h4 h5 h6 ⊢
    rw [List.drop_eq_nil_of_le (Nat.le_refl _), sTake, List.append_nil] at h2
    refine ⟨(w.1, w.2.1, iI (o.length : Int)), ?_, by rw [← h2]; exact ⟨rfl, h5⟩⟩
    simp (disch := omega) only [fX11_take_L7, h4, i_le, i_lt, i_eq, l_cmp0, l_cmplt, l_cmpgt, l_cmple, l_cmpge, b_zero, b_one, decide_eq_false_iff_not, decide_eq_true_eq]
    rw [if_pos (by omega)]
end CW
