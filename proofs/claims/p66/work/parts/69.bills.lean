/-! ===== bills ===== -/
def RB (b : BilS) (B : SB) : Prop := b.2.2.1 = iI (B.1.length : Int) ∧ b.2.2.2 = iI (B.2 : Int) ∧ AR2 b.1 b.2.1 B.1
def WB (B : SB) : Prop := B.1.length ≤ 10 ∧ B.2 < 1000000 ∧ ∀ x ∈ B.1, 0 ≤ x.1 ∧ x.1 < B.2 ∧ 1 ≤ x.2 ∧ x.2 ≤ 999
def bSum : List (Int × Int) → Int
  | [] => 0
  | x :: r => x.2 + bSum r
def plc (z : Int) : List (Int × Int) → Option Nat
  | [] => none
  | x :: r => if x.1 = z then some 0 else (plc z r).map (· + 1)
def plcI (z : Int) (L : List (Int × Int)) : Int := match plc z L with
  | some i => i
  | none => -1
def setZ (T : Nat) : Nat → List (Int × Int) → List (Int × Int)
  | _, [] => []
  | i, x :: r => (if T.testBit i = true then (x.1, 0) else x) :: setZ T (i + 1) r
def ordP : Int → List (Int × Int) → List (Int × Int)
  | _, [] => []
  | k, x :: r => (x.1, x.2 - min k x.2) :: ordP (k - min k x.2) r
def fltI (T : Nat) : Nat → List (Int × Int) → List (Int × Int)
  | _, [] => []
  | i, x :: r => if T.testBit i = true ∨ x.2 = 0 then fltI T (i + 1) r else x :: fltI T (i + 1) r
theorem bSum_rng : ∀ L : List (Int × Int), (∀ x ∈ L, 0 ≤ x.2 ∧ x.2 ≤ 999) → 0 ≤ bSum L ∧ bSum L ≤ 999 * L.length := by
  intro L
  induction L with
  | nil => intro _; exact ⟨Int.le_refl _, Int.le_refl _⟩
  | cons x r ih =>
    intro h
    have := ih (fun y hy => h y (List.mem_cons_of_mem _ hy))
    have := h x List.mem_cons_self
    rw [bSum, List.length_cons]
    omega
theorem plc_drop {z : Int} {L : List (Int × Int)} {i : Nat} {x : Int × Int} {r : List (Int × Int)} (h : plc z L = (plc z (L.drop i)).map (· + i)) (hd : L.drop i = x :: r) (hr : L.drop (i + 1) = r) : (x.1 = z → plc z L = some i) ∧ (¬ x.1 = z → plc z L = (plc z (L.drop (i + 1))).map (· + (i + 1))) := by
  rw [hd, plc] at h
  refine ⟨fun e => ?_, fun e => ?_⟩
  · rw [if_pos e] at h; rw [h]; simp
  · rw [if_neg e, Option.map_map] at h
    rw [h, hr]
    congr 1
    funext k
    show k + 1 + i = k + (i + 1)
    omega
theorem plc_lt {z : Int} : ∀ {L : List (Int × Int)} {i : Nat}, plc z L = some i → ∃ x, L[i]? = some x ∧ x.1 = z := by
  intro L
  induction L with
  | nil => intro i h; cases h
  | cons x r ih =>
    intro i h
    rw [plc] at h
    by_cases e : x.1 = z
    · rw [if_pos e] at h
      cases h
      exact ⟨x, rfl, e⟩
    · rw [if_neg e] at h
      cases hp : plc z r with
      | none => rw [hp] at h; cases h
      | some j =>
        rw [hp] at h
        cases h
        obtain ⟨y, h1, h2⟩ := ih hp
        exact ⟨y, by simpa using h1, h2⟩
theorem setZ_len (T : Nat) : ∀ (L : List (Int × Int)) i, (setZ T i L).length = L.length := by
  intro L
  induction L with
  | nil => intro i; rfl
  | cons x r ih => intro i; rw [setZ, List.length_cons, ih, List.length_cons]
theorem ordP_len : ∀ (L : List (Int × Int)) k, (ordP k L).length = L.length := by
  intro L
  induction L with
  | nil => intro i; rfl
  | cons x r ih => intro i; rw [ordP, List.length_cons, ih, List.length_cons]
theorem flt_setZ (T : Nat) : ∀ (L : List (Int × Int)) i, fltI 0 0 (setZ T i L) = fltI T i L := by
  intro L
  have e : ∀ (M : List (Int × Int)) a b, fltI 0 a M = fltI 0 b M := by
    intro M
    induction M with
    | nil => intro a b; rfl
    | cons x r ih =>
      intro a b
      rw [fltI, fltI, Nat.zero_testBit, Nat.zero_testBit, ih (a + 1) (b + 1)]
  induction L with
  | nil => intro i; rfl
  | cons x r ih =>
    intro i
    rw [setZ, fltI, fltI, Nat.zero_testBit, e _ (0 + 1) 0, ih]
    by_cases h : T.testBit i = true
    · rw [if_pos h, if_pos (Or.inr rfl), if_pos (Or.inl h)]
    · rw [if_neg h]
      by_cases h2 : x.2 = 0
      · rw [if_pos (Or.inr h2), if_pos (Or.inr h2)]
      · rw [if_neg (by simp [h2]), if_neg (by simp [h, h2])]
theorem fltI_sub (T : Nat) : ∀ (L : List (Int × Int)) i, (fltI T i L).length ≤ L.length ∧ ∀ x ∈ fltI T i L, x ∈ L ∧ x.2 ≠ 0 := by
  intro L
  induction L with
  | nil => intro i; exact ⟨Nat.le_refl _, fun x h => absurd h List.not_mem_nil⟩
  | cons x r ih =>
    intro i
    obtain ⟨h1, h2⟩ := ih (i + 1)
    rw [fltI]
    split
    · exact ⟨by simp only [List.length_cons]; omega, fun y hy => ⟨List.mem_cons_of_mem _ (h2 y hy).1, (h2 y hy).2⟩⟩
    · rename_i hc
      refine ⟨by simp only [List.length_cons]; omega, fun y hy => ?_⟩
      rcases List.mem_cons.mp hy with rfl | hy
      · exact ⟨List.mem_cons_self, fun e => hc (Or.inr e)⟩
      · exact ⟨List.mem_cons_of_mem _ (h2 y hy).1, (h2 y hy).2⟩
theorem ordP_mem : ∀ (L : List (Int × Int)) k, 0 ≤ k → (∀ x ∈ L, 0 ≤ x.2) → ∀ y ∈ ordP k L, ∃ x ∈ L, y.1 = x.1 ∧ 0 ≤ y.2 ∧ y.2 ≤ x.2 := by
  intro L
  induction L with
  | nil => intro k _ _ y hy; exact absurd hy List.not_mem_nil
  | cons x r ih =>
    intro k hk hx y hy
    have := hx x List.mem_cons_self
    rw [ordP] at hy
    rcases List.mem_cons.mp hy with rfl | hy
    · exact ⟨x, List.mem_cons_self, rfl, by simp only; omega, by simp only; omega⟩
    · obtain ⟨z, h1, h2⟩ := ih (k - min k x.2) (by omega) (fun z hz => hx z (List.mem_cons_of_mem _ hz)) y hy
      exact ⟨z, List.mem_cons_of_mem _ h1, h2⟩
section CBi
variable {b c : BilS} {B : SB}
theorem c_bilCopy (N : Nat) (h : RB c B) (hl : B.1.length ≤ 10) : ∃ b', fX2_copyFrom N b c = some (b', c) ∧ RB b' B := by
  refine ⟨_, rfl, h.1, h.2.1, fun j x hx => ?_⟩
  have := h.2.2 j x hx
  have := lt_len hx
  simp only [xlet, cpy_at (show j < 10 by omega)]
  assumption
theorem c_placeOf {N : Nat} (hN : 2000 ≤ N) (h : RB b B) (w : WB B) {z : Int} (hz : -2147483648 ≤ z ∧ z < 2147483648) : fX2_placeOf N (iI z) b = some (iI (plcI z B.1)) := by
  have hl := w.1
  have hl2 := w.2.1
  unfold fX2_placeOf xjoin
  refine loopP (F := fun n (_ : Unit) i => fX2_placeOf_L2 N b _ n (iI z) (iI (i : Int))) (I := fun _ i => plc z B.1 = (plc z (B.1.drop i)).map (· + i)) (m := B.1.length) (P := fun r => r = _) ?_ ?_ N 0 () (by omega) (by omega) (by simp)
  · intro n _ i hi hI
    obtain ⟨x, hx, hd, hm⟩ := drop_at hi
    obtain ⟨p1, p2⟩ := plc_drop hI hd rfl
    have q := w.2.2 x hm
    by_cases e : x.1 = z
    · left
      simp (disch := omega) only [fX2_placeOf_L2, h.1, xlet, xjoin, xnz_b0, xnz_b1, xnz_b, xcall_s, xrd_n, (h.2.2 i x hx).1, i_lit, i_add, i_sub, i_mul, i_neg, i_le, i_lt, i_eq, l_cmp0, l_cmplt, l_cmpgt, l_cmple, l_cmpge, b_zero, b_one, decide_eq_false_iff_not, decide_eq_true_eq, i_succ]
      rw [if_neg (by omega), if_pos e]
      unfold plcI
      rw [p1 e]
    · refine .inr ⟨(), ?_, p2 e⟩
      simp (disch := omega) only [fX2_placeOf_L2, h.1, xlet, xjoin, xnz_b0, xnz_b1, xnz_b, xcall_s, xrd_n, (h.2.2 i x hx).1, i_lit, i_add, i_sub, i_mul, i_neg, i_le, i_lt, i_eq, l_cmp0, l_cmplt, l_cmpgt, l_cmple, l_cmpge, b_zero, b_one, decide_eq_false_iff_not, decide_eq_true_eq, i_succ]
      rw [if_neg (by omega), if_neg e]
  · intro n _ hI
    simp (disch := omega) only [fX2_placeOf_L2, h.1, i_lit, i_add, i_sub, i_mul, i_neg, i_le, i_lt, i_eq, l_cmp0, l_cmplt, l_cmpgt, l_cmple, l_cmpge, b_zero, b_one, decide_eq_false_iff_not, decide_eq_true_eq]
    rw [if_pos (by omega)]
    rw [List.drop_eq_nil_of_le (Nat.le_refl _)] at hI
    unfold plcI
    rw [hI]
    rfl
theorem c_bIdAt (N : Nat) (h : RB b B) (w : WB B) {i : Nat} {x : Int × Int} (hx : B.1[i]? = some x) : fX2_idAt N (iI (i : Int)) b = some (iI x.1) := by
  have := w.1
  have := lt_len hx
  unfold fX2_idAt
  rw [xrd_n (by omega) (by omega), (h.2.2 i x hx).1]
theorem c_bAmountAt (N : Nat) (h : RB b B) (w : WB B) {i : Nat} {x : Int × Int} (hx : B.1[i]? = some x) : fX2_amountAt N (iI (i : Int)) b = some (iI x.2) := by
  have := w.1
  have := lt_len hx
  unfold fX2_amountAt
  rw [xrd_n (by omega) (by omega), (h.2.2 i x hx).2]
theorem c_total {N : Nat} (hN : 2000 ≤ N) (h : RB b B) (w : WB B) : fX2_total N b = some (iI (bSum B.1)) := by
  have hl := w.1
  unfold fX2_total xjoin
  refine loopP (F := fun n (z : Int) i => fX2_total_L4 N b _ n (iI z) (iI (i : Int))) (I := fun z i => z + bSum (B.1.drop i) = bSum B.1) (m := B.1.length) (P := fun r => r = _) ?_ ?_ N 0 0 (by omega) (by omega) (by simp)
  · intro n z i hi hz
    obtain ⟨x, hx, hd, -⟩ := drop_at hi
    refine .inr ⟨z + x.2, ?_, by rw [← hz, hd, bSum]; omega⟩
    simp (disch := omega) only [fX2_total_L4, h.1, xlet, xjoin, xnz_b0, xnz_b1, xnz_b, xcall_s, xrd_n, (h.2.2 i x hx).2, i_lit, i_add, i_sub, i_mul, i_neg, i_le, i_lt, i_eq, l_cmp0, l_cmplt, l_cmpgt, l_cmple, l_cmpge, b_zero, b_one, decide_eq_false_iff_not, decide_eq_true_eq, i_succ]
    rw [if_neg (by omega)]
  · intro n z hz
    rw [List.drop_eq_nil_of_le (Nat.le_refl _), bSum, Int.add_zero] at hz
    simp (disch := omega) only [fX2_total_L4, h.1, i_le, i_lt, i_eq, l_cmp0, l_cmplt, l_cmpgt, l_cmple, l_cmpge, b_zero, b_one, decide_eq_false_iff_not, decide_eq_true_eq, hz]
    rw [if_pos (by omega)]
theorem WB.sum (w : WB B) : 0 ≤ bSum B.1 ∧ bSum B.1 ≤ 9990 := by
  have := bSum_rng B.1 (fun x hx => by have := w.2.2 x hx; omega)
  have := w.1
  omega
theorem c_bNew (N : Nat) (h : RB b B) (w : WB B) {m : Int} (hm : -2147483648 ≤ m ∧ m < 2147483648) : fX2_faultOfNew N (iI m) b = some (if ¬ (1 ≤ m ∧ m ≤ 999) then 3 else if 10 ≤ B.1.length then 4 else 0) := by
  have := w.1
  unfold fX2_faultOfNew
  simp (disch := omega) only [xlet, xjoin, xnz_b0, xnz_b1, xnz_b, xcall_s, i_lit, i_add, i_sub, i_mul, i_neg, c_within, h.1, i_le, i_lt, i_eq, l_cmp0, l_cmplt, l_cmpgt, l_cmple, l_cmpge, b_zero, b_one, decide_eq_false_iff_not, decide_eq_true_eq]
  split
  · rfl
  · by_cases h1 : 10 ≤ B.1.length
    · rw [if_pos (by omega), if_pos h1]
    · rw [if_neg (by omega), if_neg h1]
theorem c_bPay {N : Nat} (hN : 2000 ≤ N) (h : RB b B) (w : WB B) {m : Int} (hm : -2147483648 ≤ m ∧ m < 2147483648) : fX2_faultOfPayment N (iI m) b = some (if ¬ (1 ≤ m ∧ m ≤ 999) then 3 else if bSum B.1 < m then 4 else 0) := by
  have := w.sum
  unfold fX2_faultOfPayment
  simp (disch := omega) only [xlet, xjoin, xnz_b0, xnz_b1, xnz_b, xcall_s, i_lit, i_add, i_sub, i_mul, i_neg, c_within, c_total hN h w, i_le, i_lt, i_eq, l_cmp0, l_cmplt, l_cmpgt, l_cmple, l_cmpge, b_zero, b_one, decide_eq_false_iff_not, decide_eq_true_eq]
  split
  · rfl
  · split <;> rfl
theorem c_bAdd (N : Nat) (h : RB b B) (w : WB B) (hl : B.1.length < 10) (m : Int) : ∃ b', fX2_add N (iI m) b = some (iI (B.2 : Int), b') ∧ RB b' (B.1 ++ [((B.2 : Int), m)], B.2 + 1) := by
  have := w.2.1
  apply Exists.intro
  apply And.intro
  · unfold fX2_add
    simp (disch := omega) only [xlet, xjoin, xnz_b0, xnz_b1, xnz_b, xcall_s, h.1, h.2.1, xrd_n, i_lit, i_add, i_sub, i_mul, i_neg, i_le, i_lt, i_eq, l_cmp0, l_cmplt, l_cmpgt, l_cmple, l_cmpge, b_zero, b_one, decide_eq_false_iff_not, decide_eq_true_eq]
    rw [if_neg (by omega)]
  · exact ⟨by simp, rfl, AR2.app h.2.2 ((B.2 : Int), m)⟩
theorem c_dropPaid {N : Nat} (hN : 2000 ≤ N) {L : List (Int × Int)} {nb : Nat} (h : RB b (L, nb)) (hl : L.length ≤ 10) (hp : ∀ x ∈ L, 0 ≤ x.2 ∧ x.2 ≤ 999) : ∃ b', fX2_dropPaid N b = some (iI ((L.length : Int) - (fltI 0 0 L).length), b') ∧ RB b' (fltI 0 0 L, nb) := by
  have e9 : ∀ (M : List (Int × Int)) a b, fltI 0 a M = fltI 0 b M := by
    intro M
    induction M with
    | nil => intro a b; rfl
    | cons x r ih =>
      intro a b
      rw [fltI, fltI, Nat.zero_testBit, Nat.zero_testBit, ih (a + 1) (b + 1)]
  unfold fX2_dropPaid xjoin
  rw [h.1]
  refine loopP (F := fun n (z : BilS × List (Int × Int)) i => fX2_dropPaid_L9 N _ n (iI (L.length : Int)) (iI (z.2.length : Int)) (iI (i : Int)) z.1) (I := fun z i => z.2 ++ fltI 0 0 (L.drop i) = fltI 0 0 L ∧ z.2.length ≤ i ∧ z.1.2.2.2 = iI (nb : Int) ∧ AR2 z.1.1 z.1.2.1 z.2 ∧ ∀ j x, i ≤ j → L[j]? = some x → z.1.1 j = iI x.1 ∧ z.1.2.1 j = iI x.2) (m := L.length) (P := fun r => ∃ b', r = some (iI ((L.length : Int) - (fltI 0 0 L).length), b') ∧ RB b' (fltI 0 0 L, nb)) ?_ ?_ N 0 (b, []) (by omega) (by omega) ⟨by simp, by simp, h.2.1, fun j x hx => by simp at hx, fun j x _ hx => h.2.2 j x hx⟩
  · intro n ⟨w, o⟩ i hi ⟨h2, h3, h4, h5, h6⟩
    simp only at h2 h3 h4 h5 h6 ⊢
    obtain ⟨x, hx, hd, hm⟩ := drop_at hi
    have q := hp x hm
    obtain ⟨g1, g2⟩ := h6 i x (by omega) hx
    rw [hd, fltI, Nat.zero_testBit, e9 _ (0 + 1) 0] at h2
    right
    by_cases hc : x.2 = 0
    · rw [if_pos (Or.inr hc)] at h2
      refine ⟨(w, o), ?_, h2, by simp only; omega, h4, h5, fun j y hj hy => h6 j y (by omega) hy⟩
      simp (disch := omega) only [fX2_dropPaid_L9, xlet, xjoin, xnz_b0, xnz_b1, xnz_b, xcall_s, xrd_n, g1, g2, i_lit, i_add, i_sub, i_mul, i_neg, i_le, i_lt, i_eq, l_cmp0, l_cmplt, l_cmpgt, l_cmple, l_cmpge, b_zero, b_one, decide_eq_false_iff_not, decide_eq_true_eq, i_succ]
      rw [if_neg (by omega), if_pos (by omega)]
    · rw [if_neg (by simp [hc])] at h2
      refine ⟨((upd w.1 o.length (iI x.1), upd w.2.1 o.length (iI x.2), w.2.2), o ++ [x]), ?_, by simpa using h2, by simp; omega, h4, AR2.app h5 x, fun j y hj hy => ?_⟩
      · simp (disch := omega) only [fX2_dropPaid_L9, xlet, xjoin, xnz_b0, xnz_b1, xnz_b, xcall_s, xrd_n, g1, g2, i_lit, i_add, i_sub, i_mul, i_neg, i_le, i_lt, i_eq, l_cmp0, l_cmplt, l_cmpgt, l_cmple, l_cmpge, b_zero, b_one, decide_eq_false_iff_not, decide_eq_true_eq, i_succ]
        rw [if_neg (by omega), if_neg (by omega)]
        simp only [List.length_append, List.length_cons, List.length_nil, Nat.zero_add]
      · simp only
        rw [upd_ne (by omega), upd_ne (by omega)]
        exact h6 j y (by omega) hy
  · intro n ⟨w, o⟩ ⟨h2, h3, h4, h5, h6⟩
    simp only at h2 h3 h4 h5 h6 ⊢
    rw [List.drop_eq_nil_of_le (Nat.le_refl _), fltI, List.append_nil] at h2
    refine ⟨(w.1, w.2.1, iI (o.length : Int), w.2.2.2), ?_, by rw [← h2]; exact ⟨rfl, h4, h5⟩⟩
    simp (disch := omega) only [fX2_dropPaid_L9, i_lit, i_add, i_sub, i_mul, i_neg, i_le, i_lt, i_eq, l_cmp0, l_cmplt, l_cmpgt, l_cmple, l_cmpge, b_zero, b_one, decide_eq_false_iff_not, decide_eq_true_eq]
    rw [if_pos (by omega), h2]
theorem c_paySet {N : Nat} (hN : 2000 ≤ N) (h : RB b B) (w : WB B) {T : Nat} (hT : T < 1024) : ∃ b', fX2_paySet N (iI (T : Int)) b = some (iI ((B.1.length : Int) - (fltI T 0 B.1).length), b') ∧ RB b' (fltI T 0 B.1, B.2) := by
  have hl := w.1
  unfold fX2_paySet xjoin
  have hz : ∀ i (x : Int × Int), (setZ T 0 B.1)[i]? = some x → ∃ y, B.1[i]? = some y ∧ x = if T.testBit i = true then (y.1, 0) else y := by
    have e : ∀ (L : List (Int × Int)) a i (x : Int × Int), (setZ T a L)[i]? = some x → ∃ y, L[i]? = some y ∧ x = if T.testBit (a + i) = true then (y.1, 0) else y := by
      intro L
      induction L with
      | nil => intro a i x hx; simp [setZ] at hx
      | cons y r ih =>
        intro a i x hx
        rw [setZ] at hx
        cases i with
        | zero => simp at hx; exact ⟨y, rfl, hx.symm⟩
        | succ i =>
          simp at hx
          obtain ⟨q, h1, h2⟩ := ih (a + 1) i x hx
          exact ⟨q, by simpa using h1, by rw [h2, show a + 1 + i = a + (i + 1) by omega]⟩
    intro i x hx
    obtain ⟨y, h1, h2⟩ := e B.1 0 i x hx
    exact ⟨y, h1, by rw [h2, Nat.zero_add]⟩
  have hz2 : ∀ i (y : Int × Int), B.1[i]? = some y → (setZ T 0 B.1)[i]? = some (if T.testBit i = true then (y.1, 0) else y) := by
    intro i y hy
    have := lt_len hy
    have h1 : i < (setZ T 0 B.1).length := by rw [setZ_len]; exact this
    obtain ⟨y', h2, h3⟩ := hz i _ (List.getElem?_eq_getElem h1)
    rw [hy] at h2
    cases h2
    rw [List.getElem?_eq_getElem h1, h3]
  refine loopP (F := fun n (z : BilS) i => fX2_paySet_L2 N _ n (iI (T : Int)) (iI (i : Int)) z) (I := fun z i => z.2.2.1 = iI (B.1.length : Int) ∧ z.2.2.2 = iI (B.2 : Int) ∧ (∀ j x, B.1[j]? = some x → z.1 j = iI x.1) ∧ (∀ j x, j < i → (setZ T 0 B.1)[j]? = some x → z.2.1 j = iI x.2) ∧ ∀ j x, i ≤ j → B.1[j]? = some x → z.2.1 j = iI x.2) (m := B.1.length) (P := fun r => ∃ b', r = some (iI ((B.1.length : Int) - (fltI T 0 B.1).length), b') ∧ RB b' (fltI T 0 B.1, B.2)) ?_ ?_ N 0 b (by omega) (by omega) ⟨h.1, h.2.1, fun j x hx => (h.2.2 j x hx).1, fun j x hj => absurd hj (by omega), fun j x _ hx => (h.2.2 j x hx).2⟩
  · intro n z i hi ⟨h1, h2, h3, h4, h5⟩
    obtain ⟨x, hx, hd, hm⟩ := drop_at hi
    have g2 := h5 i x (by omega) hx
    have q := hz2 i x hx
    right
    by_cases hb : T.testBit i = true
    · rw [if_pos hb] at q
      refine ⟨(z.1, upd z.2.1 i (iI 0), z.2.2), ?_, h1, h2, h3, fun j y hj hy => ?_, fun j y hj hy => ?_⟩
      · simp (disch := omega) only [fX2_paySet_L2, h1, xlet, xjoin, xnz_b0, xnz_b1, xnz_b, xcall_s, xrd_n, c_isInSet, i_lit, i_add, i_sub, i_mul, i_neg, i_le, i_lt, i_eq, l_cmp0, l_cmplt, l_cmpgt, l_cmple, l_cmpge, b_zero, b_one, decide_eq_false_iff_not, decide_eq_true_eq, i_succ]
        rw [if_neg (by omega), if_neg (by rw [hb]; decide)]
      · simp only
        by_cases e : j = i
        · subst e
          rw [q] at hy
          cases hy
          exact upd_eq
        · rw [upd_ne e]
          exact h4 j y (by omega) hy
      · simp only
        rw [upd_ne (by omega)]
        exact h5 j y (by omega) hy
    · rw [if_neg hb] at q
      refine ⟨z, ?_, h1, h2, h3, fun j y hj hy => ?_, fun j y hj hy => h5 j y (by omega) hy⟩
      · simp (disch := omega) only [fX2_paySet_L2, h1, xlet, xjoin, xnz_b0, xnz_b1, xnz_b, xcall_s, xrd_n, c_isInSet, i_lit, i_add, i_sub, i_mul, i_neg, i_le, i_lt, i_eq, l_cmp0, l_cmplt, l_cmpgt, l_cmple, l_cmpge, b_zero, b_one, decide_eq_false_iff_not, decide_eq_true_eq, i_succ]
        rw [if_neg (by omega), if_pos (by simpa using hb)]
      · by_cases e : j = i
        · subst e
          rw [q] at hy
          cases hy
          exact g2
        · exact h4 j y (by omega) hy
  · intro n z ⟨h1, h2, h3, h4, h5⟩
    have hR : RB z (setZ T 0 B.1, B.2) := ⟨by rw [setZ_len]; exact h1, h2, fun j x hx => by
      have hj := lt_len hx
      rw [setZ_len] at hj
      refine ⟨?_, h4 j x hj hx⟩
      obtain ⟨y, e1, e2⟩ := hz j x hx
      rw [h3 j y e1, e2]
      split <;> rfl⟩
    obtain ⟨b', d1, d2⟩ := c_dropPaid hN hR (by rw [setZ_len]; exact hl) (fun x hx => by
      obtain ⟨i, hi⟩ := List.getElem?_of_mem hx
      obtain ⟨y, e1, e2⟩ := hz i x hi
      have := w.2.2 y (List.mem_of_getElem? e1)
      rw [e2]
      split
      · simp only; omega
      · omega)
    rw [flt_setZ, setZ_len] at d1
    rw [flt_setZ] at d2
    refine ⟨b', ?_, d2⟩
    simp (disch := omega) only [fX2_paySet_L2, h1, i_le, i_lt, i_eq, l_cmp0, l_cmplt, l_cmpgt, l_cmple, l_cmpge, b_zero, b_one, decide_eq_false_iff_not, decide_eq_true_eq, d1, xcall_s]
    rw [if_pos (by omega)]
theorem c_payInOrder {N : Nat} (hN : 2000 ≤ N) (h : RB b B) (w : WB B) {k : Int} (hk : 0 ≤ k ∧ k ≤ 999) : ∃ b', fX2_payInOrder N (iI k) b = some (iI ((B.1.length : Int) - (fltI 0 0 (ordP k B.1)).length), b') ∧ RB b' (fltI 0 0 (ordP k B.1), B.2) := by
  have hl := w.1
  unfold fX2_payInOrder xjoin
  refine loopP (F := fun n (z : BilS × Int × List (Int × Int)) i => fX2_payInOrder_L4 N _ n (iI z.2.1) (iI (i : Int)) z.1) (I := fun z i => z.1.2.2.1 = iI (B.1.length : Int) ∧ z.1.2.2.2 = iI (B.2 : Int) ∧ 0 ≤ z.2.1 ∧ z.2.1 ≤ 999 ∧ z.2.2.length = i ∧ z.2.2 ++ ordP z.2.1 (B.1.drop i) = ordP k B.1 ∧ AR2 z.1.1 z.1.2.1 z.2.2 ∧ ∀ j x, i ≤ j → B.1[j]? = some x → z.1.1 j = iI x.1 ∧ z.1.2.1 j = iI x.2) (m := B.1.length) (P := fun r => ∃ b', r = some (iI ((B.1.length : Int) - (fltI 0 0 (ordP k B.1)).length), b') ∧ RB b' (fltI 0 0 (ordP k B.1), B.2)) ?_ ?_ N 0 (b, k, []) (by omega) (by omega) ⟨h.1, h.2.1, hk.1, hk.2, rfl, by simp, fun j x hx => by simp at hx, fun j x _ hx => h.2.2 j x hx⟩
  · intro n ⟨z, k', o⟩ i hi ⟨h1, h2, h3, h4, h5, h6, h7, h8⟩
    simp only at h1 h2 h3 h4 h5 h6 h7 h8 ⊢
    obtain ⟨x, hx, hd, hm⟩ := drop_at hi
    have q := w.2.2 x hm
    obtain ⟨g1, g2⟩ := h8 i x (by omega) hx
    rw [hd, ordP] at h6
    right
    refine ⟨((z.1, upd z.2.1 i (iI (x.2 - min k' x.2)), z.2.2), k' - min k' x.2, o ++ [(x.1, x.2 - min k' x.2)]), ?_, h1, h2, by simp only; omega, by simp only; omega, by simp only [List.length_append, List.length_cons, List.length_nil]; omega, by simpa using h6, fun j y hy => ?_, fun j y hj hy => ?_⟩
    · simp (disch := omega) only [fX2_payInOrder_L4, h1, xlet, xjoin, xnz_b0, xnz_b1, xnz_b, xcall_s, xrd_n, g2, c_min, i_lit, i_add, i_sub, i_mul, i_neg, i_le, i_lt, i_eq, l_cmp0, l_cmplt, l_cmpgt, l_cmple, l_cmpge, b_zero, b_one, decide_eq_false_iff_not, decide_eq_true_eq, i_succ]
      rw [if_neg (by omega)]
    · simp only
      have hj := lt_len hy
      simp only [List.length_append, List.length_cons, List.length_nil] at hj
      by_cases e : j < o.length
      · rw [List.getElem?_append_left e] at hy
        rw [upd_ne (by omega)]
        exact h7 j y hy
      · have e : j = o.length := by omega
        subst e
        simp at hy
        subst hy
        rw [h5, upd_eq]
        exact ⟨g1, rfl⟩
    · simp only
      rw [upd_ne (by omega)]
      exact h8 j y (by omega) hy
  · intro n ⟨z, k', o⟩ ⟨h1, h2, h3, h4, h5, h6, h7, h8⟩
    simp only at h1 h2 h3 h4 h5 h6 h7 h8 ⊢
    rw [List.drop_eq_nil_of_le (Nat.le_refl _), ordP, List.append_nil] at h6
    subst h6
    have hR : RB z (ordP k B.1, B.2) := ⟨by rw [ordP_len]; exact h1, h2, h7⟩
    obtain ⟨b', d1, d2⟩ := c_dropPaid hN hR (by rw [ordP_len]; exact hl) (fun x hx => by
      obtain ⟨y, e1, e2⟩ := ordP_mem B.1 k hk.1 (fun y hy => by have := w.2.2 y hy; omega) x hx
      have := w.2.2 y e1
      omega)
    rw [ordP_len] at d1
    refine ⟨b', ?_, d2⟩
    simp (disch := omega) only [fX2_payInOrder_L4, h1, i_le, i_lt, i_eq, l_cmp0, l_cmplt, l_cmpgt, l_cmple, l_cmpge, b_zero, b_one, decide_eq_false_iff_not, decide_eq_true_eq, d1, xcall_s]
    rw [if_pos (by omega)]
end CBi
