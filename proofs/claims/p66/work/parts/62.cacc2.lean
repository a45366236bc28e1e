/-! ===== the class's accounts: changes, trees, ranks ===== -/
def sAdd (A : SA) (k p : Int) : SA := (aN A + 1, updI (aK A) (aN A) k, updI (aP A) (aN A) p, aD A, aC A)
def sMove (A : SA) (d c : Nat) (m : Int) : SA := (aN A, aK A, aP A, updI (aD A) d (aD A d + m), updI (aC A) c (aC A c + m))
theorem fits_c {k : Int} (h0 : 0 ≤ k) (h1 : k < 65536) : fits .char (.int (iI k)) = true := by
  have h2 : ((0 : Int32) ≤ iI k) ∧ (iI k ≤ 65535) := by
    simp (disch := omega) only [i_lit, i_add, i_sub, i_mul, i_neg, i_le, i_lt, i_eq, l_cmp0, l_cmplt, l_cmpgt, l_cmple, l_cmpge, b_zero, b_one, decide_eq_false_iff_not, decide_eq_true_eq]
    omega
  simp [fits, h2.1, h2.2]
theorem fits_cv (x : Int32) : fits .char (.int (vp_nar .char x)) = true := by
  have := fits_narrow_char x
  unfold vp_nar
  revert this
  show fits .char (.int x.toUInt32.toUInt16.toUInt32.toInt32) = true → _
  exact fun h => h
theorem xfit_at {n : Nat} {f : Nat → Int32} (h : xfitC n f = true) {i : Nat} (hi : i < n) : fits .char (.int (f i)) = true := xfitC_n h i hi
theorem xfit_of {n : Nat} {f : Nat → Int32} (h : ∀ i, i < n → fits .char (.int (f i)) = true) : xfitC n f = true := List.all_eq_true.mpr fun i hi => h i (List.mem_range.mp hi)
theorem xfit_upd {n : Nat} {f : Nat → Int32} (h : xfitC n f = true) (k : Nat) {x : Int32} (hx : fits .char (.int x) = true) : xfitC n (upd f k x) = true := xfit_of fun i hi => by
  by_cases h1 : i = k
  · subst h1; rw [upd_eq]; exact hx
  · rw [upd_ne h1]; exact xfit_at h hi
theorem xfit_cpy {n : Nat} {f g : Nat → Int32} (h : xfitC n f = true) : xfitC n (va_cpy f g 0 0 n) = true := xfit_of fun i hi => by
  unfold va_cpy
  rw [if_pos (by omega)]
  rw [show 0 + (i - 0) = i by omega]
  exact xfit_at h hi
theorem cpy_at {α : Type} {f g : Nat → α} {n i : Nat} (hi : i < n) : va_cpy f g 0 0 n i = f i := by
  unfold va_cpy
  rw [if_pos (by omega), show 0 + (i - 0) = i by omega]
section CB
variable {a b : AccS} {A : SA}
theorem c_accCopy (N : Nat) (h : RA b A) (hn : aN A ≤ 12) : ∃ a', fX1_copyFrom N a b = some (a', b) ∧ RA a' A := by
  apply Exists.intro
  apply And.intro
  · unfold fX1_copyFrom
    rw [xnz_of h.1]
    rfl
  · refine ⟨xfit_cpy h.1, h.2.1, fun i hi => ?_⟩
    have := h.2.2 i hi
    simp only [cpy_at (show i < 12 by omega)]
    exact this
theorem c_add (N : Nat) (h : RA a A) (w : WA A) (hn : aN A < 12) {k p : Int} (h0 : 0 ≤ k) (h1 : k < 65536) : ∃ a', fX1_add N (iI k) (iI p) a = some (iI (aN A : Int), a') ∧ RA a' (sAdd A k p) := by
  apply Exists.intro
  apply And.intro
  · unfold fX1_add
    simp (disch := omega) only [xlet, xjoin, xnz_b0, xnz_b1, xnz_b, xcall_s, h.2.1, xrd_n, i_lit, i_add, i_sub, i_mul, i_neg, l_lit, l_add, l_sub, l_mul, l_neg, i_le, i_lt, i_eq, l_cmp0, l_cmplt, l_cmpgt, l_cmple, l_cmpge, b_zero, b_one, decide_eq_false_iff_not, decide_eq_true_eq, vnar_char h0 h1]
    rw [if_neg (by omega)]
  · refine ⟨xfit_upd h.1 _ (fits_c h0 h1), rfl, fun i hi => ?_⟩
    have z := w.2.2.2.2.1 (aN A) (by omega)
    rcases Nat.lt_or_ge i (aN A) with h2 | h2
    · have := h.2.2 i h2
      show upd a.1 (aN A) (iI k) i = iI (updI (aK A) (aN A) k i) ∧ upd a.2.1 (aN A) (iI p) i = iI (updI (aP A) (aN A) p i) ∧ vp_updL a.2.2.1 (aN A) (iL 0) i = iL (aD A i) ∧ vp_updL a.2.2.2.1 (aN A) (iL 0) i = iL (aC A i)
      have e : i ≠ aN A := by omega
      rw [upd_ne e, upd_ne e, updL_ne e, updL_ne e, updI_ne e, updI_ne e]
      exact this
    · have : i = aN A := by have : i < aN A + 1 := hi; omega
      subst this
      show upd a.1 (aN A) (iI k) (aN A) = iI (updI (aK A) (aN A) k (aN A)) ∧ upd a.2.1 (aN A) (iI p) (aN A) = iI (updI (aP A) (aN A) p (aN A)) ∧ vp_updL a.2.2.1 (aN A) (iL 0) (aN A) = iL (aD A (aN A)) ∧ vp_updL a.2.2.2.1 (aN A) (iL 0) (aN A) = iL (aC A (aN A))
      rw [upd_eq, upd_eq, updL_eq, updL_eq, updI_eq, updI_eq, z.1, z.2]
      exact ⟨rfl, rfl, rfl, rfl⟩
theorem c_move (N : Nat) (h : RA a A) (hn : aN A ≤ 12) {d c : Nat} (hd : d < aN A) (hc : c < aN A) (m : Int) : ∃ a', fX1_move N (iI (d : Int)) (iI (c : Int)) (iL m) a = some a' ∧ RA a' (sMove A d c m) := by
  apply Exists.intro
  apply And.intro
  · unfold fX1_move
    simp (disch := omega) only [xlet, xjoin, xnz_b0, xnz_b1, xnz_b, xcall_s, xrd_n, h.d hd, h.c hc, l_lit, l_add, l_sub, l_mul, l_neg]
    rfl
  · refine ⟨h.1, h.2.1, fun i hi => ?_⟩
    have hi : i < aN A := hi
    have := h.2.2 i hi
    refine ⟨this.1, this.2.1, ?_, ?_⟩
    · show vp_updL a.2.2.1 d (iL (aD A d + m)) i = iL (updI (aD A) d (aD A d + m) i)
      by_cases h1 : i = d
      · subst h1; rw [updL_eq, updI_eq]
      · rw [updL_ne h1, updI_ne h1]; exact this.2.2.1
    · show vp_updL a.2.2.2.1 c (iL (aC A c + m)) i = iL (updI (aC A) c (aC A c + m) i)
      by_cases h1 : i = c
      · subst h1; rw [updL_eq, updI_eq]
      · rw [updL_ne h1, updI_ne h1]; exact this.2.2.2
end CB
/-! bits -/
theorem iI_bv (T : Nat) : (iI (T : Int)).toBitVec = BitVec.ofNat 32 T := by
  show BitVec.ofInt 32 (T : Int) = _
  rw [BitVec.ofInt_natCast]
theorem and31 : ∀ k : Nat, k < 31 → (iI (k : Int)) &&& 31 = iI (k : Int) := by decide +kernel
theorem shr_k : ∀ k : Nat, k < 31 → ∀ x : Int32, (x >>> (iI (k : Int))).toBitVec = x.toBitVec.sshiftRight k := by
  intro k hk x
  show x.toBitVec.sshiftRight ((iI (k : Int)).toBitVec.smod 32).toNat = _
  have : ∀ k : Nat, k < 31 → ((iI (k : Int)).toBitVec.smod 32).toNat = k := by decide +kernel
  rw [this k hk]
theorem shl_k : ∀ k : Nat, k < 31 → ∀ x : Int32, (x <<< (iI (k : Int))).toBitVec = x.toBitVec <<< k := by
  intro k hk x
  show x.toBitVec <<< ((iI (k : Int)).toBitVec.smod 32) = _
  have : ∀ k : Nat, k < 31 → ((iI (k : Int)).toBitVec.smod 32).toNat = k := by decide +kernel
  rw [BitVec.shiftLeft_eq', this k hk]
theorem bit_shr {k T : Nat} (hk : k < 31) (hT : T < 2147483648) : (iI (T : Int)) >>> ((iI (k : Int)) &&& 31) = iI ((T >>> k : Nat) : Int) := by
  rw [and31 k hk]
  apply Int32.toBitVec_inj.mp
  rw [shr_k k hk, iI_bv, iI_bv, BitVec.sshiftRight_eq_of_msb_false]
  · apply BitVec.eq_of_toNat_eq
    rw [BitVec.toNat_ushiftRight, BitVec.toNat_ofNat, BitVec.toNat_ofNat, Nat.mod_eq_of_lt (by omega), Nat.mod_eq_of_lt]
    exact Nat.lt_of_le_of_lt (Nat.shiftRight_le T k) (by omega)
  · rw [BitVec.msb_eq_decide, BitVec.toNat_ofNat, Nat.mod_eq_of_lt (by omega)]
    exact decide_eq_false (by omega)
theorem bit_and1 (T : Nat) (hT : T < 2147483648) : (iI (T : Int)) &&& 1 = iB (T.testBit 0) := by
  apply Int32.toBitVec_inj.mp
  show (iI (T : Int)).toBitVec &&& 1#32 = _
  rw [iI_bv]
  apply BitVec.eq_of_toNat_eq
  rw [BitVec.toNat_and, BitVec.toNat_ofNat, Nat.mod_eq_of_lt (by omega)]
  rw [Nat.testBit_zero]
  have : T &&& 1 = T % 2 := Nat.and_one_is_mod T
  show T &&& 1 = _
  rw [this]
  rcases Nat.mod_two_eq_zero_or_one T with h | h <;> rw [h] <;> decide
theorem bit_tst {k T : Nat} (hk : k < 31) (hT : T < 2147483648) : ((iI (T : Int)) >>> ((iI (k : Int)) &&& 31)) &&& 1 = iB (T.testBit k) := by
  rw [bit_shr hk hT, bit_and1 _ (Nat.lt_of_le_of_lt (Nat.shiftRight_le T k) hT), Nat.testBit_shiftRight]
  rfl
theorem bit_set {k T : Nat} (hk : k < 31) (hT : T < 2147483648) : (iI (T : Int)) ||| ((1 : Int32) <<< ((iI (k : Int)) &&& 31)) = iI ((T ||| 2 ^ k : Nat) : Int) := by
  rw [and31 k hk]
  apply Int32.toBitVec_inj.mp
  show (iI (T : Int)).toBitVec ||| ((1 : Int32) <<< (iI (k : Int))).toBitVec = _
  rw [shl_k k hk, iI_bv, iI_bv]
  apply BitVec.eq_of_toNat_eq
  have hp : 2 ^ k < 2 ^ 31 := Nat.pow_lt_pow_right (by decide) hk
  rw [BitVec.toNat_or, BitVec.toNat_ofNat, BitVec.toNat_ofNat, Nat.mod_eq_of_lt (by omega), BitVec.toNat_shiftLeft]
  have e : (1 : Int32).toBitVec.toNat = 1 := by decide
  rw [e, Nat.shiftLeft_eq, Nat.one_mul, Nat.mod_eq_of_lt (by omega), Nat.mod_eq_of_lt]
  exact Nat.lt_trans (Nat.or_lt_two_pow (n := 31) (by omega) (by omega)) (by decide)
theorem bit_one {k : Nat} (hk : k < 31) : (1 : Int32) <<< ((iI (k : Int)) &&& 31) = iI ((2 ^ k : Nat) : Int) := by
  have := bit_set (k := k) (T := 0) hk (by decide)
  rw [Nat.zero_or] at this
  rw [← this]
  show _ = (0 : Int32) ||| _
  rw [Int32.zero_or]
theorem c_isInSet (N : Nat) {k T : Nat} (hk : k < 31) (hT : T < 2147483648) : fX12_isInSet N (iI (k : Int)) (iI (T : Int)) = some (iB (T.testBit k)) := by
  unfold fX12_isInSet
  rw [bit_tst hk hT]
  simp only [xlet, xjoin, xnz_b0, xnz_b1, xnz_b, xcall_s, i_lit, i_add, i_sub, i_mul, i_neg, b_one]
  cases T.testBit k <;> rfl
def pop (n T : Nat) : Int := sumN (fun k => if T.testBit k then 1 else 0) n
theorem bitCount_all : (List.range 4096).all (fun T => decide (fJ6_bitCount_0f7a4 0 (iI (T : Int)) = some (iI (pop 12 T)))) = true := by decide +kernel
theorem c_bitCount (N : Nat) {T : Nat} (hT : T < 4096) : fJ6_bitCount_0f7a4 N (iI (T : Int)) = some (iI (pop 12 T)) := by
  have := List.all_eq_true.mp bitCount_all T (List.mem_range.mpr hT)
  exact of_decide_eq_true this
/-! trees -/
def anc (pa : Nat → Int) : Nat → Nat → Nat → Bool
  | 0, top, now => decide (now = top)
  | f + 1, top, now => if now ≤ top then decide (now = top) else if pa now < 0 then false else anc pa f top (pa now).toNat
def below (A : SA) (top now : Nat) : Bool := anc (aP A) 12 top now
theorem anc_fuel {pa : Nat → Int} {n : Nat} (hp : ∀ i, i < n → pa i < i) : ∀ f f' top now, now < n → now ≤ f → now ≤ f' → anc pa f top now = anc pa f' top now := by
  intro f
  induction f with
  | zero =>
    intro f' top now hn h h'
    have : now = 0 := by omega
    subst this
    cases f' with
    | zero => rfl
    | succ f' => show _ = ite _ _ _; rw [if_pos (by omega)]; rfl
  | succ f ih =>
    intro f' top now hn h h'
    cases f' with
    | zero =>
      have : now = 0 := by omega
      subst this
      show ite _ _ _ = _
      rw [if_pos (by omega)]; rfl
    | succ f' =>
      show ite _ _ _ = ite _ _ _
      have := hp now hn
      split
      · rfl
      · split
        · rfl
        · exact ih f' top _ (by omega) (by omega) (by omega)
theorem below_step {A : SA} (w : WA A) {top now : Nat} (hn : now < aN A) : below A top now = if now ≤ top then decide (now = top) else if aP A now < 0 then false else below A top (aP A now).toNat := by
  have := w.2.1
  have := (w.at hn).2.2.1
  unfold below
  show ite _ _ _ = _
  split
  · rfl
  · split
    · rfl
    · exact anc_fuel (n := aN A) (fun i hi => (w.at hi).2.2.1) 11 12 top _ (by omega) (by omega) (by omega)
section CT
variable {a : AccS} {A : SA}
theorem c_leadsUpTo {N : Nat} (hN : 2000 ≤ N) (h : RA a A) (w : WA A) {i t : Nat} (hi : i < aN A) (ht : t < aN A) : fX1_leadsUpTo N (iI (i : Int)) (iI (t : Int)) a = some (iB (below A t i)) := by
  have := w.2.1
  unfold fX1_leadsUpTo xjoin
  refine loopP (F := fun n (v : Int) k => fX1_leadsUpTo_L5 N a _ n (iI (t : Int)) (iI v) (iI (k : Int))) (I := fun v k => -1 ≤ v ∧ v + k < 12 ∧ v < aN A ∧ below A t i = if v < 0 then false else below A t v.toNat) (m := 12) (P := fun r => r = _) ?_ ?_ N 0 (i : Int) (by omega) (by omega) ⟨by omega, by omega, by omega, by rw [if_neg (by omega)]; rfl⟩
  · intro n v k hk ⟨h1, h2, h3, h4⟩
    by_cases hc : v ≤ (t : Int)
    · left
      simp (disch := omega) only [fX1_leadsUpTo_L5, xlet, xjoin, xnz_b0, xnz_b1, xnz_b, xcall_s, i_lit, i_add, i_sub, i_mul, i_neg, i_le, i_lt, i_eq, l_cmp0, l_cmplt, l_cmpgt, l_cmple, l_cmpge, b_zero, b_one, decide_eq_false_iff_not, decide_eq_true_eq]
      rw [if_neg (by omega), if_pos hc]
      by_cases h5 : v < 0
      · rw [if_pos h5] at h4
        rw [if_neg (by omega), h4]; rfl
      · obtain ⟨v, rfl⟩ := Int.eq_ofNat_of_zero_le (by omega : 0 ≤ v)
        rw [if_neg h5, Int.toNat_natCast, below_step w (now := v) (by omega), if_pos (by omega)] at h4
        rw [h4]
        by_cases h6 : (v : Int) = (t : Int)
        · rw [if_pos h6, decide_eq_true (by omega)]; rfl
        · rw [if_neg h6, decide_eq_false (by omega)]; rfl
    · right
      obtain ⟨v, rfl⟩ := Int.eq_ofNat_of_zero_le (by omega : 0 ≤ v)
      have q := w.at (i := v) (by omega)
      refine ⟨aP A v, ?_, by omega, by omega, by omega, ?_⟩
      · simp (disch := omega) only [fX1_leadsUpTo_L5, xlet, xjoin, xnz_b0, xnz_b1, xnz_b, xcall_s, i_lit, i_add, i_sub, i_mul, i_neg, i_le, i_lt, i_eq, l_cmp0, l_cmplt, l_cmpgt, l_cmple, l_cmpge, b_zero, b_one, decide_eq_false_iff_not, decide_eq_true_eq, xrd_n, h.p (show v < aN A by omega), i_succ]
        rw [if_neg (by omega), if_neg (by omega)]
      · rw [if_neg (by omega), Int.toNat_natCast, below_step w (now := v) (by omega), if_neg (by omega)] at h4
        exact h4
  · intro n v ⟨h1, h2, h3, h4⟩
    simp (disch := omega) only [fX1_leadsUpTo_L5, xlet, xjoin, xnz_b0, xnz_b1, xnz_b, xcall_s, i_lit, i_add, i_sub, i_mul, i_neg, i_le, i_lt, i_eq, l_cmp0, l_cmplt, l_cmpgt, l_cmple, l_cmpge, b_zero, b_one, decide_eq_false_iff_not, decide_eq_true_eq]
    rw [if_pos (by omega), if_neg (by omega)]
    rw [if_pos (by omega)] at h4
    rw [h4]; rfl
theorem below_le {A : SA} (w : WA A) {t k : Nat} (hk : k < aN A) (h : k ≤ t) : below A t k = decide (k = t) := by
  rw [below_step w hk, if_pos h]
theorem c_treeOf {N : Nat} (hN : 2000 ≤ N) (h : RA a A) (w : WA A) {t : Nat} (ht : t < aN A) : ∃ T : Nat, fX1_treeOf N (iI (t : Int)) a = some (iI (T : Int)) ∧ T < 4096 ∧ ∀ k, k < 12 → T.testBit k = (decide (k < aN A) && below A t k) := by
  have := w.2.1
  unfold fX1_treeOf xjoin
  rw [bit_one (by omega)]
  simp only [xlet, i_lit, i_add, i_succ]
  refine loopP (F := fun n (T : Nat) k => fX1_treeOf_L8 N a _ n (iI (T : Int)) (iI (k : Int))) (I := fun T k => T < 4096 ∧ t < k ∧ ∀ j, j < 12 → T.testBit j = (decide (j < k) && below A t j)) (m := aN A) (P := fun r => ∃ T : Nat, r = some (iI (T : Int)) ∧ T < 4096 ∧ ∀ k, k < 12 → T.testBit k = (decide (k < aN A) && below A t k)) ?_ ?_ N (t + 1) (2 ^ t) (by omega) (by omega) ⟨Nat.lt_of_lt_of_le (Nat.pow_lt_pow_right (by decide) (show t < 12 by omega)) (by decide), by omega, fun j hj => ?_⟩
  · intro n T k hk ⟨h1, h2, h3⟩
    right
    have q := w.at hk
    have hb := below_step w (top := t) hk
    rw [if_neg (by omega)] at hb
    by_cases h4 : aP A k = -1
    · refine ⟨T, ?_, h1, by omega, fun j hj => ?_⟩
      · simp (disch := omega) only [fX1_treeOf_L8, h.2.1, xlet, xjoin, xnz_b0, xnz_b1, xnz_b, xcall_s, i_lit, i_add, i_sub, i_mul, i_neg, i_le, i_lt, i_eq, l_cmp0, l_cmplt, l_cmpgt, l_cmple, l_cmpge, b_zero, b_one, decide_eq_false_iff_not, decide_eq_true_eq, xrd_n, h.p hk, i_succ]
        rw [if_neg (by omega), if_pos h4]
      · rw [h3 j hj]
        by_cases h5 : j = k
        · subst h5
          rw [if_pos (by omega)] at hb
          rw [hb]; simp
        · rw [show decide (j < k) = decide (j < k + 1) from decide_eq_decide.mpr (by omega)]
    · obtain ⟨p, hp⟩ := Int.eq_ofNat_of_zero_le (show 0 ≤ aP A k by omega)
      rw [if_neg (by omega), hp, Int.toNat_natCast] at hb
      have hq := h3 p (by omega)
      rw [decide_eq_true (by omega), Bool.true_and] at hq
      by_cases h5 : T.testBit p = true
      · refine ⟨T ||| 2 ^ k, ?_, Nat.or_lt_two_pow (n := 12) h1 (Nat.pow_lt_pow_right (by decide) (by omega)), by omega, fun j hj => ?_⟩
        · simp (disch := omega) only [fX1_treeOf_L8, h.2.1, xlet, xjoin, xnz_b0, xnz_b1, xnz_b, xcall_s, i_lit, i_add, i_sub, i_mul, i_neg, i_le, i_lt, i_eq, l_cmp0, l_cmplt, l_cmpgt, l_cmple, l_cmpge, b_zero, b_one, decide_eq_false_iff_not, decide_eq_true_eq, xrd_n, h.p hk, i_succ, hp, c_isInSet]
          rw [if_neg (by omega), if_neg (by omega), if_neg (by rw [h5]; decide), ← i_lit, ← i_lit, bit_set (by omega) (by omega)]
        · rw [Nat.testBit_or, h3 j hj, Nat.testBit_two_pow]
          by_cases h6 : j = k
          · subst h6
            rw [hb, ← hq, h5]; simp
          · rw [show decide (j < k) = decide (j < k + 1) from decide_eq_decide.mpr (by omega), decide_eq_false (show ¬ k = j by omega), Bool.or_false]
      · refine ⟨T, ?_, h1, by omega, fun j hj => ?_⟩
        · simp (disch := omega) only [fX1_treeOf_L8, h.2.1, xlet, xjoin, xnz_b0, xnz_b1, xnz_b, xcall_s, i_lit, i_add, i_sub, i_mul, i_neg, i_le, i_lt, i_eq, l_cmp0, l_cmplt, l_cmpgt, l_cmple, l_cmpge, b_zero, b_one, decide_eq_false_iff_not, decide_eq_true_eq, xrd_n, h.p hk, i_succ, hp, c_isInSet]
          rw [if_neg (by omega), if_neg (by omega), if_pos (by simpa using h5)]
        · rw [h3 j hj]
          by_cases h6 : j = k
          · subst h6
            rw [hb, ← hq]
            simp [h5]
          · rw [show decide (j < k) = decide (j < k + 1) from decide_eq_decide.mpr (by omega)]
  · intro n T ⟨h1, h2, h3⟩
    refine ⟨T, ?_, h1, h3⟩
    simp (disch := omega) only [fX1_treeOf_L8, h.2.1, i_le, i_lt, i_eq, l_cmp0, l_cmplt, l_cmpgt, l_cmple, l_cmpge, b_zero, b_one, decide_eq_false_iff_not, decide_eq_true_eq]
    rw [if_pos (by omega)]
  · rw [Nat.testBit_two_pow]
    by_cases h5 : j ≤ t
    · rw [below_le w (by omega) h5, decide_eq_true (show j < t + 1 by omega), Bool.true_and]
      exact decide_eq_decide.mpr (by omega)
    · rw [decide_eq_false (show ¬ j < t + 1 by omega), Bool.false_and]
      exact decide_eq_false (by omega)
def sTreeSum (A : SA) (t : Nat) : Int := sumN (fun k => if below A t k = true then bal A k else 0) (aN A)
def sTreeSize (A : SA) (t : Nat) : Int := sumN (fun k => if below A t k = true then 1 else 0) (aN A)
theorem sumN_zero {f : Nat → Int} : ∀ n, (∀ i, i < n → f i = 0) → sumN f n = 0 := by
  intro n
  induction n with
  | zero => intro _; rfl
  | succ n ih => intro h; rw [sumN, ih (fun i hi => h i (by omega)), h n (by omega)]; rfl
theorem tree_low {A : SA} (w : WA A) {t : Nat} (ht : t < aN A) (g : Nat → Int) : sumN (fun k => if below A t k = true then g k else 0) t = 0 := by
  apply sumN_zero
  intro i hi
  show ite _ _ _ = _
  rw [if_neg]
  rw [below_le w (by omega) (by omega), decide_eq_true_eq]
  omega
theorem c_sumOfTree {N : Nat} (hN : 2000 ≤ N) (h : RA a A) (w : WA A) {t : Nat} (ht : t < aN A) : fX1_sumOfTree N (iI (t : Int)) a = some (iL (sTreeSum A t)) := by
  have := w.2.1
  obtain ⟨T, e, hT, hb⟩ := c_treeOf hN h w ht
  unfold fX1_sumOfTree xjoin
  rw [xcall_of e]
  refine loopP (F := fun n v k => fX1_sumOfTree_L11 N a _ n (iI (T : Int)) v (iI (k : Int))) (I := fun v k => v = iL (sumN (fun k => if below A t k = true then bal A k else 0) k)) (m := aN A) (P := fun r => r = _) ?_ ?_ N t _ (by omega) (by omega) (by rw [tree_low w ht]; rfl)
  · intro n v k hk hv
    refine .inr ⟨_, ?_, rfl⟩
    have q := hb k (by omega)
    rw [decide_eq_true hk, Bool.true_and] at q
    simp (disch := omega) only [fX1_sumOfTree_L11, h.2.1, xlet, xjoin, xnz_b0, xnz_b1, xnz_b, xcall_s, c_isInSet, c_bal N h w hk, i_lit, i_add, i_sub, i_mul, i_neg, l_lit, l_add, l_sub, l_mul, l_neg, i_le, i_lt, i_eq, l_cmp0, l_cmplt, l_cmpgt, l_cmple, l_cmpge, b_zero, b_one, decide_eq_false_iff_not, decide_eq_true_eq, hv, i_succ, sumN]
    rw [if_neg (by omega), q]
    cases below A t k
    · rw [if_pos rfl, if_neg (by decide), Int.add_zero]
    · rw [if_neg (by decide), if_pos rfl]
  · intro n v hv
    simp (disch := omega) only [fX1_sumOfTree_L11, h.2.1, i_le, i_lt, i_eq, l_cmp0, l_cmplt, l_cmpgt, l_cmple, l_cmpge, b_zero, b_one, decide_eq_false_iff_not, decide_eq_true_eq, hv]
    rw [if_pos (by omega)]
    rfl
theorem c_sumOfThoseBelow {N : Nat} (hN : 2000 ≤ N) (h : RA a A) (w : WA A) {t : Nat} (ht : t < aN A) : fX1_sumOfThoseBelow N (iI (t : Int)) a = some (iL (sTreeSum A t)) := by
  have := w.2.1
  unfold fX1_sumOfThoseBelow xjoin
  refine loopP (F := fun n v k => fX1_sumOfThoseBelow_L5 N a _ n (iI (t : Int)) v (iI (k : Int))) (I := fun v k => v = iL (sumN (fun k => if below A t k = true then bal A k else 0) k)) (m := aN A) (P := fun r => r = _) ?_ ?_ N 0 _ (by omega) (by omega) rfl
  · intro n v k hk hv
    refine .inr ⟨_, ?_, rfl⟩
    simp (disch := omega) only [fX1_sumOfThoseBelow_L5, h.2.1, xlet, xjoin, xnz_b0, xnz_b1, xnz_b, xcall_s, c_leadsUpTo hN h w hk ht, c_bal N h w hk, i_lit, i_add, i_sub, i_mul, i_neg, l_lit, l_add, l_sub, l_mul, l_neg, i_le, i_lt, i_eq, l_cmp0, l_cmplt, l_cmpgt, l_cmple, l_cmpge, b_zero, b_one, decide_eq_false_iff_not, decide_eq_true_eq, hv, i_succ, sumN]
    rw [if_neg (by omega)]
    cases below A t k
    · rw [if_pos rfl, if_neg (by decide), Int.add_zero]
    · rw [if_neg (by decide), if_pos rfl]
  · intro n v hv
    simp (disch := omega) only [fX1_sumOfThoseBelow_L5, h.2.1, i_le, i_lt, i_eq, l_cmp0, l_cmplt, l_cmpgt, l_cmple, l_cmpge, b_zero, b_one, decide_eq_false_iff_not, decide_eq_true_eq, hv]
    rw [if_pos (by omega)]
    rfl
theorem c_sizeOfTree {N : Nat} (hN : 2000 ≤ N) (h : RA a A) (w : WA A) {t : Nat} (ht : t < aN A) : fX1_sizeOfTree N (iI (t : Int)) a = some (iI (sTreeSize A t)) := by
  have := w.2.1
  obtain ⟨T, e, hT, hb⟩ := c_treeOf hN h w ht
  unfold fX1_sizeOfTree
  rw [xcall_of e, c_bitCount N hT, xcall_s]
  congr 2
  unfold pop sTreeSize
  have e : ∀ m, m ≤ 12 → aN A ≤ m → sumN (fun k => if T.testBit k then 1 else 0) m = sumN (fun k => if below A t k = true then 1 else 0) (aN A) := by
    intro m
    induction m with
    | zero => intro _ h2; omega
    | succ m ih =>
      intro h1 h2
      by_cases h3 : aN A ≤ m
      · rw [sumN, ih (by omega) h3]
        show _ + ite _ _ _ = _
        rw [hb m (by omega), decide_eq_false (by omega), Bool.false_and, if_neg (by decide), Int.add_zero]
      · have : aN A = m + 1 := by omega
        rw [this]
        apply sumN_congr
        intro i hi
        show ite _ _ _ = ite _ _ _
        rw [hb i (by omega), decide_eq_true (by omega), Bool.true_and]
  exact e 12 (by omega) (by omega)
theorem treeSum_rng {A : SA} (w : WA A) (t : Nat) : -3221225472 ≤ sTreeSum A t ∧ sTreeSum A t ≤ 3221225472 := by
  have := w.2.1
  have e : ∀ m, m ≤ aN A → -268435456 * m ≤ sumN (fun k => if below A t k = true then bal A k else 0) m ∧ sumN (fun k => if below A t k = true then bal A k else 0) m ≤ 268435456 * m := by
    intro m
    induction m with
    | zero => intro _; exact ⟨Int.le_refl _, Int.le_refl _⟩
    | succ m ih =>
      intro hm
      have := ih (by omega)
      have q := bal_rng w (i := m) (by omega)
      rw [sumN]
      split <;> omega
  have := e (aN A) (by omega)
  unfold sTreeSum
  omega
theorem c_treesAgree {N : Nat} (hN : 2000 ≤ N) (h : RA a A) (w : WA A) : fX1_treesAgree N a = some (iI 1) := by
  have := w.2.1
  unfold fX1_treesAgree xjoin
  refine loopP (F := fun n (_ : Unit) k => fX1_treesAgree_L2 N a _ n (iI (k : Int))) (I := fun _ _ => True) (m := aN A) (P := fun r => r = _) ?_ ?_ N 0 () (by omega) (by omega) trivial
  · intro n v k hk hv
    refine .inr ⟨(), ?_, trivial⟩
    have q := treeSum_rng w k
    simp (disch := omega) only [fX1_treesAgree_L2, h.2.1, xlet, xjoin, xnz_b0, xnz_b1, xnz_b, xcall_s, c_sumOfTree hN h w hk, c_sumOfThoseBelow hN h w hk, i_lit, i_add, i_sub, i_mul, i_neg, i_le, i_lt, i_eq, l_cmp0, l_cmplt, l_cmpgt, l_cmple, l_cmpge, b_zero, b_one, decide_eq_false_iff_not, decide_eq_true_eq, i_succ]
    rw [if_neg (by omega), if_pos trivial]
  · intro n v hv
    simp (disch := omega) only [fX1_treesAgree_L2, h.2.1, i_le, i_lt, i_eq, l_cmp0, l_cmplt, l_cmpgt, l_cmple, l_cmpge, b_zero, b_one, decide_eq_false_iff_not, decide_eq_true_eq]
    rw [if_pos (by omega)]
    rfl
/-! ranks -/
def richer (A : SA) (o i : Nat) : Prop := bal A i < bal A o ∨ (bal A i = bal A o ∧ o < i)
def richB (A : SA) (o i : Nat) : Bool := decide (bal A i < bal A o) || (decide (bal A i = bal A o) && decide (o < i))
def sRank (A : SA) (i : Nat) : Int := sumN (fun o => if richB A o i = true then 1 else 0) (aN A)
theorem c_rankOf {N : Nat} (hN : 2000 ≤ N) (h : RA a A) (w : WA A) {i : Nat} (hi : i < aN A) : fX1_rankOf N (iI (i : Int)) a = some (iI (sRank A i)) := by
  have := w.2.1
  unfold fX1_rankOf xjoin
  rw [c_bal N h w hi, xcall_s]
  have q2 := bal_rng w hi
  refine loopP (F := fun n v k => fX1_rankOf_L12 N a _ n (iI (i : Int)) (iL (bal A i)) v (iI (k : Int))) (I := fun v k => v = iI (sumN (fun o => if richB A o i = true then 1 else 0) k)) (m := aN A) (P := fun r => r = _) ?_ ?_ N 0 _ (by omega) (by omega) rfl
  · intro n v k hk hv
    refine .inr ⟨_, ?_, rfl⟩
    have q1 := bal_rng w hk
    simp (disch := omega) only [fX1_rankOf_L12, h.2.1, xlet, xjoin, xnz_b0, xnz_b1, xnz_b, xcall_s, c_bal N h w hk, i_lit, i_add, i_sub, i_mul, i_neg, l_lit, l_add, l_sub, l_mul, l_neg, i_le, i_lt, i_eq, l_cmp0, l_cmplt, l_cmpgt, l_cmple, l_cmpge, b_zero, b_one, decide_eq_false_iff_not, decide_eq_true_eq, hv, i_succ, sumN]
    rw [if_neg (by omega)]
    unfold richB
    by_cases h1 : bal A i < bal A k
    · rw [if_pos h1, if_pos (by simp [h1])]
    · by_cases h2 : bal A k = bal A i
      · by_cases h3 : k < i
        · rw [if_neg h1, if_pos h2, if_neg (by omega), if_pos (by simp [h2, h3])]
        · rw [if_neg h1, if_pos h2, if_pos (by omega), if_neg (by simp [h2]; omega), Int.add_zero]
      · rw [if_neg h1, if_neg h2, if_neg (by simp; omega), Int.add_zero]
  · intro n v hv
    simp (disch := omega) only [fX1_rankOf_L12, h.2.1, i_le, i_lt, i_eq, l_cmp0, l_cmplt, l_cmpgt, l_cmple, l_cmpge, b_zero, b_one, decide_eq_false_iff_not, decide_eq_true_eq, hv]
    rw [if_pos (by omega)]
    rfl
theorem sRank_rng {A : SA} (i : Nat) : 0 ≤ sRank A i ∧ sRank A i ≤ aN A := by
  have e : ∀ m, 0 ≤ sumN (fun o => if richB A o i = true then 1 else 0) m ∧ sumN (fun o => if richB A o i = true then 1 else 0) m ≤ m := by
    intro m
    induction m with
    | zero => exact ⟨Int.le_refl _, Int.le_refl _⟩
    | succ m ih => rw [sumN]; split <;> omega
  exact e (aN A)
def firstI (p : Nat → Bool) (n : Nat) : Option Nat := (List.range n).find? p
theorem c_accountAtRank {N : Nat} (hN : 2000 ≤ N) (h : RA a A) (w : WA A) {r : Int} (hr : -2147483648 ≤ r ∧ r < 2147483648) : ∀ i, (∀ j, j < i → ¬ sRank A j = r) → i < aN A → sRank A i = r → fX1_accountAtRank N (iI r) a = some (iI (i : Int)) := by
  intro i hj hi he
  have := w.2.1
  unfold fX1_accountAtRank xjoin
  refine loopP (F := fun n (_ : Unit) k => fX1_accountAtRank_L2 N a _ n (iI r) (iI (k : Int))) (I := fun _ k => k ≤ i) (m := aN A) (P := fun r => r = _) ?_ ?_ N 0 () (by omega) (by omega) (by omega)
  · intro n v k hk hv
    have q := sRank_rng (A := A) k
    by_cases h1 : k = i
    · left
      subst h1
      simp (disch := omega) only [fX1_accountAtRank_L2, h.2.1, xlet, xjoin, xnz_b0, xnz_b1, xnz_b, xcall_s, c_rankOf hN h w hk, i_lit, i_add, i_sub, i_mul, i_neg, i_le, i_lt, i_eq, l_cmp0, l_cmplt, l_cmpgt, l_cmple, l_cmpge, b_zero, b_one, decide_eq_false_iff_not, decide_eq_true_eq, i_succ]
      rw [if_neg (by omega), if_pos he]
    · refine .inr ⟨(), ?_, by omega⟩
      simp (disch := omega) only [fX1_accountAtRank_L2, h.2.1, xlet, xjoin, xnz_b0, xnz_b1, xnz_b, xcall_s, c_rankOf hN h w hk, i_lit, i_add, i_sub, i_mul, i_neg, i_le, i_lt, i_eq, l_cmp0, l_cmplt, l_cmpgt, l_cmple, l_cmpge, b_zero, b_one, decide_eq_false_iff_not, decide_eq_true_eq, i_succ]
      rw [if_neg (by omega), if_neg (hj k (by omega))]
  · intro n v hv
    exact absurd hv (by omega)
end CT
