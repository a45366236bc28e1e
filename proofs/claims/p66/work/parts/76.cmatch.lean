/-! ===== the class's matcher ===== -/
section CM
variable {t : MatS} {b : BilS} {B : SB}
theorem c_sumSets {N : Nat} (hN : 2000 ≤ N) (h : RB b B) (w : WB B) : ∃ t', fX7_sumSets N t b = some (iI ((2 ^ B.1.length : Nat) : Int), t', b) ∧ ∀ T, T < 2 ^ B.1.length → t'.2 T = iI (ss T 0 B.1) := by
  have hl := w.1
  unfold fX7_sumSets xjoin
  rw [i_lit, show (1 : Int32) = iI ((2 ^ 0 : Nat) : Int) from rfl]
  unfold xlet
  dsimp only
  refine loopP (F := fun n (z : MatS) p => fX7_sumSets_L11 N _ n (iI ((2 ^ p : Nat) : Int)) (iI (p : Int)) z b) (I := fun z p => ∀ T, T < 2 ^ p → z.2 T = iI (ss T 0 B.1)) (m := B.1.length) (P := fun r => ∃ t', r = some (iI ((2 ^ B.1.length : Nat) : Int), t', b) ∧ ∀ T, T < 2 ^ B.1.length → t'.2 T = iI (ss T 0 B.1)) ?_ ?_ N 0 (Mats1 t (upd t.2 0 (iI 0))) (by omega) (by omega) ?_
  · intro n z p hp hz
    obtain ⟨x, hx, hd, hm⟩ := drop_at hp
    have hp1 := two_pow_10 (n := p) (by omega)
    have hp2 := two_pow_10 (n := p + 1) (by omega)
    have e2 : 2 ^ (p + 1) = 2 ^ p + 2 ^ p := by rw [Nat.pow_succ]; omega
    right
    have hin : ∀ (K : Int32 → Int32 → MatS → BilS → Option (Int32 × MatS × BilS)), ∃ z', fX7_sumSets_L22 N K N (iI ((2 ^ p : Nat) : Int)) (iI (p : Int)) (iI 0) z b = K (iI ((2 ^ p : Nat) : Int)) (iI (p : Int)) z' b ∧ ∀ T, T < 2 ^ (p + 1) → z'.2 T = iI (ss T 0 B.1) := by
      intro K
      refine loopP (F := fun n (y : MatS) k => fX7_sumSets_L22 N K n (iI ((2 ^ p : Nat) : Int)) (iI (p : Int)) (iI (k : Int)) y b) (I := fun y k => ∀ T, T < 2 ^ p + k → y.2 T = iI (ss T 0 B.1)) (m := 2 ^ p) (P := fun r => ∃ z', r = K (iI ((2 ^ p : Nat) : Int)) (iI (p : Int)) z' b ∧ ∀ T, T < 2 ^ (p + 1) → z'.2 T = iI (ss T 0 B.1)) ?_ ?_ N 0 z (by omega) (by omega) (by simpa using hz)
      · intro n y k hk hy
        refine .inr ⟨Mats1 y (upd y.2 (2 ^ p + k) (iI (ss k 0 B.1 + x.2))), ?_, fun T hT => ?_⟩
        · rw [fX7_sumSets_L22]
          simp (disch := omega) only [xlet, xjoin, xnz_b0, xnz_b1, xnz_b, xcall_s, xrd_n, i_lit, i_add, i_sub, i_mul, i_neg, i_le, i_lt, i_eq, l_cmp0, l_cmplt, l_cmpgt, l_cmple, l_cmpge, b_zero, b_one, decide_eq_false_iff_not, decide_eq_true_eq, i_succ, c_bAmountAt N h w hx, hy k (by omega)]
          rw [if_neg (by omega), xrd_nn (by omega) (by omega)]
        · show upd y.2 _ _ T = _
          by_cases e : T = 2 ^ p + k
          · subst e
            rw [upd_eq, ss_add hk B.1 0 (by omega) x (by simpa using hx)]
          · rw [upd_ne e]
            exact hy T (by omega)
      · intro n y hy
        refine ⟨y, ?_, fun T hT => hy T (by omega)⟩
        rw [fX7_sumSets_L22]
        simp (disch := omega) only [i_le, i_lt, i_eq, l_cmp0, l_cmplt, l_cmpgt, l_cmple, l_cmpge, b_zero, b_one, decide_eq_false_iff_not, decide_eq_true_eq]
        rw [if_pos (by omega)]
    obtain ⟨z', d1, d2⟩ := hin (fun (v2_5 : Int32) (v3_5 : Int32) (s0_5 : MatS) (s1_5 : BilS) => xlet (v2_5 * 2) fun x6 => xlet (v3_5 + (1)) fun x7 => fX7_sumSets_L11 N (fun (v2_2 : Int32) (s0_2 : MatS) (s1_2 : BilS) => some (v2_2, s0_2, s1_2)) n x6 x7 s0_5 s1_5)
    refine ⟨z', ?_, d2⟩
    rw [fX7_sumSets_L11, h.1]
    simp (disch := omega) only [i_le]
    rw [if_neg (by omega)]
    unfold xjoin
    rw [show (0 : Int32) = iI 0 from rfl]
    refine d1.trans ?_
    simp only [xlet, i_lit, i_add, i_mul, i_succ]
    rw [show (((2 ^ p : Nat) : Int) * 2) = ((2 ^ (p + 1) : Nat) : Int) by omega]
  · intro n z hz
    refine ⟨z, ?_, hz⟩
    rw [fX7_sumSets_L11, h.1]
    simp (disch := omega) only [i_le]
    rw [if_pos (by omega)]
  · intro T hT
    have : T = 0 := by omega
    subst this
    show upd t.2 0 (iI 0) 0 = _
    rw [upd_eq, ss_zero]
theorem c_hasSet {N : Nat} (hN : 2000 ≤ N) (h : RB b B) (w : WB B) {m : Int} (hm : 1 ≤ m ∧ m ≤ 999) : ∃ t', fX7_hasSet N (iI m) t b = some (iB (decide (choN m B.1 (2 ^ B.1.length) ≠ 0)), t', b) := by
  have hl := w.1
  have hp := two_pow_10 hl
  obtain ⟨t', d1, d2⟩ := c_sumSets (t := t) hN h w
  refine ⟨t', ?_⟩
  unfold fX7_hasSet xjoin
  rw [d1, xcall_s, show (1 : Int32) = iI ((1 : Nat) : Int) from rfl]
  refine loopP (F := fun n (_ : Unit) i => fX7_hasSet_L9 N _ n (iI m) (iI ((2 ^ B.1.length : Nat) : Int)) (iI (i : Int)) t' b) (I := fun _ i => 1 ≤ i ∧ ∀ T, 1 ≤ T → T < i → ss T 0 B.1 ≠ m) (m := 2 ^ B.1.length) (P := fun r => r = _) ?_ ?_ N 1 () (by omega) (by omega) ⟨Nat.le_refl _, fun T h1 h2 => absurd h2 (by omega)⟩
  · intro n _ i hi ⟨h1, h2⟩
    have q := ss_rng B.1 i 0 (fun x hx => by have := w.2.2 x hx; omega)
    by_cases hc : ss i 0 B.1 = m
    · left
      rw [fX7_hasSet_L9]
      simp (disch := omega) only [xlet, xjoin, xnz_b0, xnz_b1, xnz_b, xcall_s, xrd_n, d2 i hi, i_lit, i_add, i_sub, i_mul, i_neg, i_le, i_lt, i_eq, l_cmp0, l_cmplt, l_cmpgt, l_cmple, l_cmpge, b_zero, b_one, decide_eq_false_iff_not, decide_eq_true_eq, i_succ]
      rw [if_neg (by omega), if_pos hc, decide_eq_true ((choN_iff m B.1 _).mpr ⟨i, h1, hi, hc⟩)]
      rfl
    · refine .inr ⟨(), ?_, by omega, fun T h3 h4 => ?_⟩
      · rw [fX7_hasSet_L9]
        simp (disch := omega) only [xlet, xjoin, xnz_b0, xnz_b1, xnz_b, xcall_s, xrd_n, d2 i hi, i_lit, i_add, i_sub, i_mul, i_neg, i_le, i_lt, i_eq, l_cmp0, l_cmplt, l_cmpgt, l_cmple, l_cmpge, b_zero, b_one, decide_eq_false_iff_not, decide_eq_true_eq, i_succ]
        rw [if_neg (by omega), if_neg hc]
      · by_cases e : T = i
        · subst e; exact hc
        · exact h2 T h3 (by omega)
  · intro n _ ⟨h1, h2⟩
    rw [fX7_hasSet_L9]
    simp (disch := omega) only [i_le, i_lt, i_eq, l_cmp0, l_cmplt, l_cmpgt, l_cmple, l_cmpge, b_zero, b_one, decide_eq_false_iff_not, decide_eq_true_eq]
    rw [if_pos (by omega), decide_eq_false (fun c => by obtain ⟨T, a1, a2, a3⟩ := (choN_iff m B.1 _).mp c; exact h2 T a1 a2 a3)]
    rfl
theorem c_chosenSet {N : Nat} (hN : 2000 ≤ N) (h : RB b B) (w : WB B) {m : Int} (hm : 1 ≤ m ∧ m ≤ 999) : ∃ t', fX7_chosenSet N (iI m) t b = some (iI (choN m B.1 (2 ^ B.1.length) : Int), t', b) := by
  have hl := w.1
  have hp := two_pow_10 hl
  obtain ⟨t', d1, d2⟩ := c_sumSets (t := t) hN h w
  refine ⟨t', ?_⟩
  unfold fX7_chosenSet xjoin
  rw [d1, xcall_s, show (1 : Int32) = iI ((1 : Nat) : Int) from rfl]
  refine loopP (F := fun n (z : Nat) i => fX7_chosenSet_L12 N _ n (iI m) (iI ((2 ^ B.1.length : Nat) : Int)) (iI (z : Int)) (iI (i : Int)) t' b) (I := fun z i => 1 ≤ i ∧ z = choN m B.1 i) (m := 2 ^ B.1.length) (P := fun r => r = _) ?_ ?_ N 1 0 (by omega) (by omega) ⟨Nat.le_refl _, rfl⟩
  · intro n z i hi ⟨h1, hz⟩
    have q := ss_rng B.1 i 0 (fun x hx => by have := w.2.2 x hx; omega)
    have q2 := choN_lt m B.1 i
    refine .inr ⟨choN m B.1 (i + 1), ?_, by omega, rfl⟩
    rw [fX7_chosenSet_L12]
    simp (disch := omega) only [xlet, xjoin, xnz_b0, xnz_b1, xnz_b, xcall_s, xrd_n, d2 i hi, i_lit, i_add, i_sub, i_mul, i_neg, i_le, i_lt, i_eq, l_cmp0, l_cmplt, l_cmpgt, l_cmple, l_cmpge, b_zero, b_one, decide_eq_false_iff_not, decide_eq_true_eq, i_succ, c_isPreferred]
    rw [if_neg (by omega), choN, hz]
    by_cases c1 : ss i 0 B.1 = m
    · rw [if_pos c1]
      by_cases c2 : choN m B.1 i = 0
      · rw [if_pos (by omega), if_pos ⟨by omega, c1, Or.inl c2⟩]
      · rw [if_neg (by omega)]
        by_cases c3 : prefB i (choN m B.1 i) = true
        · rw [if_neg (by simp [c3]), if_pos ⟨by omega, c1, Or.inr c3⟩]
        · rw [if_pos (by simpa using c3), if_neg (by rintro ⟨_, _, h | h⟩ <;> contradiction)]
    · rw [if_neg c1, if_neg (fun c => c1 c.2.1)]
  · intro n z ⟨h1, hz⟩
    rw [fX7_chosenSet_L12]
    simp (disch := omega) only [i_le, i_lt, i_eq, l_cmp0, l_cmplt, l_cmpgt, l_cmple, l_cmpge, b_zero, b_one, decide_eq_false_iff_not, decide_eq_true_eq]
    rw [if_pos (by omega), hz]
def rch (L : List (Int × Int)) (p : Nat) (v : Int) : Bool := (List.range (2 ^ p)).any (fun T => decide (ss T 0 L = v))
theorem rch_iff {L : List (Int × Int)} {p : Nat} {v : Int} : rch L p v = true ↔ ∃ T, T < 2 ^ p ∧ ss T 0 L = v := by
  unfold rch
  rw [List.any_eq_true]
  constructor
  · rintro ⟨T, h1, h2⟩
    exact ⟨T, List.mem_range.mp h1, of_decide_eq_true h2⟩
  · rintro ⟨T, h1, h2⟩
    exact ⟨T, List.mem_range.mpr h1, decide_eq_true h2⟩
theorem rch_step {L : List (Int × Int)} {p : Nat} {x : Int × Int} (hx : L[p]? = some x) (v : Int) : rch L (p + 1) v = (rch L p v || rch L p (v - x.2)) := by
  have e2 : 2 ^ (p + 1) = 2 ^ p + 2 ^ p := by rw [Nat.pow_succ]; omega
  rw [Bool.eq_iff_iff, Bool.or_eq_true, rch_iff, rch_iff, rch_iff]
  constructor
  · rintro ⟨T, h1, h2⟩
    rcases Nat.lt_or_ge T (2 ^ p) with h3 | h3
    · exact Or.inl ⟨T, h3, h2⟩
    · obtain ⟨s, rfl⟩ := Nat.exists_eq_add_of_le h3
      rw [ss_add (by omega) L 0 (by omega) x (by simpa using hx)] at h2
      exact Or.inr ⟨s, by omega, by omega⟩
  · rintro (⟨T, h1, h2⟩ | ⟨T, h1, h2⟩)
    · exact ⟨T, by omega, h2⟩
    · refine ⟨2 ^ p + T, by omega, ?_⟩
      rw [ss_add h1 L 0 (by omega) x (by simpa using hx)]
      omega
theorem rch_neg {L : List (Int × Int)} (hL : ∀ x ∈ L, 0 ≤ x.2 ∧ x.2 ≤ 999) {p : Nat} {v : Int} (hv : v < 0) : rch L p v = false := by
  rw [Bool.eq_false_iff]
  intro h
  obtain ⟨T, h1, h2⟩ := rch_iff.mp h
  have := ss_rng L T 0 hL
  omega
theorem c_reachWith {N : Nat} (hN : 2000 ≤ N) {L : List (Int × Int)} (hL : ∀ x ∈ L, 0 ≤ x.2 ∧ x.2 ≤ 999) {p : Nat} {x : Int × Int} (hx : L[p]? = some x) (h1 : 1 ≤ x.2) {m : Nat} (hm : m ≤ 999) (h : ∀ v : Nat, v ≤ m → t.1 v = iB (rch L p v)) : ∃ t', fX7_reachWith N (iI x.2) (iI (m : Int)) t = some t' ∧ ∀ v : Nat, v ≤ m → t'.1 v = iB (rch L (p + 1) v) := by
  have hx9 := hL x (List.mem_of_getElem? hx)
  unfold fX7_reachWith xjoin
  dsimp only
  rw [show (m : Int) = ((m + 1 : Nat) : Int) - 1 by omega]
  refine loopM (F := fun n (z : Nat × MatS) => fX7_reachWith_L2 N _ n (iI x.2) (iI ((z.1 : Int) - 1)) z.2) (I := fun z => z.1 ≤ m + 1 ∧ (∀ v : Nat, v < z.1 → z.2.1 v = iB (rch L p v)) ∧ ∀ v : Nat, z.1 ≤ v → v ≤ m → z.2.1 v = iB (rch L (p + 1) v)) (μ := fun z => z.1) (P := fun r => ∃ t', r = some t' ∧ ∀ v : Nat, v ≤ m → t'.1 v = iB (rch L (p + 1) v)) ?_ N (m + 1, t) (by simp only; omega) ⟨Nat.le_refl _, fun v hv => h v (by omega), fun v h1 h2 => absurd h2 (by omega)⟩
  intro n ⟨q, z⟩ ⟨a1, a2, a3⟩
  simp only at a1 a2 a3 ⊢
  by_cases hc : ((q : Int) - 1) < x.2
  · left
    refine ⟨z, ?_, fun v hv => ?_⟩
    · rw [fX7_reachWith_L2]
      simp (disch := omega) only [i_le, i_lt, i_eq, l_cmp0, l_cmplt, l_cmpgt, l_cmple, l_cmpge, b_zero, b_one, decide_eq_false_iff_not, decide_eq_true_eq]
      rw [if_pos hc]
    · by_cases hv2 : q ≤ v
      · exact a3 v hv2 hv
      · rw [a2 v (by omega), rch_step hx, rch_neg hL (v := (v : Int) - x.2) (by omega), Bool.or_false]
  · right
    obtain ⟨c, rfl⟩ : ∃ c, q = c + 1 := ⟨q - 1, by omega⟩
    obtain ⟨k, hk⟩ := Int.eq_ofNat_of_zero_le (show 0 ≤ ((c : Int)) - x.2 by omega)
    have ec : ((c + 1 : Nat) : Int) - 1 = (c : Int) := by omega
    have g := a2 k (by omega)
    have e9 : rch L (p + 1) (c : Int) = (rch L p (c : Int) || rch L p (k : Int)) := by rw [rch_step hx, hk]
    by_cases hr : rch L p (k : Int) = true
    · refine ⟨(c, Mats0 z (upd z.1 c (iI 1))), ?_, ⟨by simp only; omega, fun v hv => ?_, fun v h3 h4 => ?_⟩, by simp only; omega⟩
      · rw [fX7_reachWith_L2]
        simp (disch := omega) only [ec, xlet, xjoin, xnz_b0, xnz_b1, xnz_b, xcall_s, i_lit, i_add, i_sub, i_mul, i_neg, hk, xrd_n, g, i_le, i_lt, i_eq, l_cmp0, l_cmplt, l_cmpgt, l_cmple, l_cmpge, b_zero, b_one, decide_eq_false_iff_not, decide_eq_true_eq, vnar_b1]
        rw [if_neg (by omega), if_neg (by simp [hr])]
        rw [← Int.sub_eq_add_neg]
      · simp only at hv ⊢
        rw [upd_ne (by omega)]
        exact a2 v (by omega)
      · simp only at h3 ⊢
        by_cases e : v = c
        · subst e
          rw [upd_eq, e9, hr, Bool.or_true]; rfl
        · rw [upd_ne e]
          exact a3 v (by omega) h4
    · refine ⟨(c, z), ?_, ⟨by simp only; omega, fun v hv => a2 v (by simp only at hv; omega), fun v h3 h4 => ?_⟩, by simp only; omega⟩
      · rw [fX7_reachWith_L2]
        simp (disch := omega) only [ec, xlet, xjoin, xnz_b0, xnz_b1, xnz_b, xcall_s, i_lit, i_add, i_sub, i_mul, i_neg, hk, xrd_n, g, i_le, i_lt, i_eq, l_cmp0, l_cmplt, l_cmpgt, l_cmple, l_cmpge, b_zero, b_one, decide_eq_false_iff_not, decide_eq_true_eq]
        rw [if_neg (by omega), if_pos (by simpa using hr)]
        rw [← Int.sub_eq_add_neg]
      · simp only at h3 ⊢
        by_cases e : v = c
        · subst e
          rw [a2 v (by omega), e9, Bool.eq_false_iff.mpr hr, Bool.or_false]
        · exact a3 v (by omega) h4
theorem c_canReach {N : Nat} (hN : 2000 ≤ N) (h : RB b B) (w : WB B) {m : Nat} (hm : 1 ≤ m ∧ m ≤ 999) : ∃ t', fX7_canReach N (iI (m : Int)) t b = some (iB (decide (choN m B.1 (2 ^ B.1.length) ≠ 0)), t', b) := by
  have hl := w.1
  have hL : ∀ x ∈ B.1, 0 ≤ x.2 ∧ x.2 ≤ 999 := fun x hx => by have := w.2.2 x hx; omega
  have hz0 : ∀ v : Nat, rch B.1 0 (v : Int) = decide (v = 0) := by
    intro v
    rw [Bool.eq_iff_iff, rch_iff, decide_eq_true_eq]
    constructor
    · rintro ⟨T, h1, h2⟩
      have : T = 0 := by omega
      subst this
      rw [ss_zero] at h2
      omega
    · rintro rfl
      exact ⟨0, by decide, ss_zero _ _⟩
  have hend : rch B.1 B.1.length (m : Int) = decide (choN m B.1 (2 ^ B.1.length) ≠ 0) := by
    rw [Bool.eq_iff_iff, rch_iff, decide_eq_true_eq, choN_iff]
    constructor
    · rintro ⟨T, h1, h2⟩
      refine ⟨T, ?_, h1, h2⟩
      rcases Nat.eq_zero_or_pos T with e | e
      · subst e
        rw [ss_zero] at h2
        omega
      · exact e
    · rintro ⟨T, h1, h2, h3⟩
      exact ⟨T, h2, h3⟩
  unfold fX7_canReach
  rw [show (1 : Int32) = iI 1 from rfl, show (999 : Int32) = iI 999 from rfl, c_within N (by omega) (by omega) (by omega), decide_eq_true (by omega), xcall_s]
  rw [if_neg (by decide), vnar_b1]
  unfold xlet
  dsimp only
  unfold xjoin
  dsimp only
  rw [show (iI 1) = iI ((1 : Nat) : Int) from rfl]
  have hlast : ∀ z : MatS, (∀ v : Nat, v ≤ m → z.1 v = iB (rch B.1 0 v)) → ∃ t', fX7_canReach_L42 N (fun (v2_5 : Int32) (s0_5 : MatS) (s1_5 : BilS) => xrd 1000 v2_5 fun k6 => xnz (xnar .boolean (s0_5.1 k6)) (some (s0_5.1 k6, s0_5, s1_5))) N (iI (m : Int)) (iI 0) z b = some (iB (decide (choN m B.1 (2 ^ B.1.length) ≠ 0)), t', b) := by
    intro z hz
    refine loopP (F := fun n (y : MatS) p => fX7_canReach_L42 N _ n (iI (m : Int)) (iI (p : Int)) y b) (I := fun y p => ∀ v : Nat, v ≤ m → y.1 v = iB (rch B.1 p v)) (m := B.1.length) (P := fun r => ∃ t', r = some (iB (decide (choN m B.1 (2 ^ B.1.length) ≠ 0)), t', b)) ?_ ?_ N 0 z (by omega) (by omega) hz
    · intro n y p hp hy
      obtain ⟨x, hx, hd, hm9⟩ := drop_at hp
      obtain ⟨t', d1, d2⟩ := c_reachWith hN hL hx (w.2.2 x hm9).2.2.1 hm.2 hy
      refine .inr ⟨t', ?_, d2⟩
      rw [fX7_canReach_L42, h.1]
      simp (disch := omega) only [xlet, xjoin, xnz_b0, xnz_b1, xnz_b, xcall_s, i_lit, i_add, i_sub, i_mul, i_neg, i_le, i_lt, i_eq, l_cmp0, l_cmplt, l_cmpgt, l_cmple, l_cmpge, b_zero, b_one, decide_eq_false_iff_not, decide_eq_true_eq, i_succ, c_bAmountAt N h w hx, d1]
      rw [if_neg (by omega)]
    · intro n y hy
      refine ⟨y, ?_⟩
      rw [fX7_canReach_L42, h.1]
      simp (disch := omega) only [xlet, xjoin, xnz_b0, xnz_b1, xnz_b, xcall_s, i_le, i_lt, i_eq, l_cmp0, l_cmplt, l_cmpgt, l_cmple, l_cmpge, b_zero, b_one, decide_eq_false_iff_not, decide_eq_true_eq, xrd_n, hy m (Nat.le_refl _)]
      rw [if_pos (by omega), hend]
  refine loopP (F := fun n (y : MatS) k => fX7_canReach_L22 N _ n (iI (m : Int)) (iI (k : Int)) y b) (I := fun y k => 1 ≤ k ∧ ∀ v : Nat, v < k → y.1 v = iB (rch B.1 0 v)) (m := m + 1) (P := fun r => ∃ t', r = some (iB (decide (choN m B.1 (2 ^ B.1.length) ≠ 0)), t', b)) ?_ ?_ N 1 (Mats0 t (upd t.1 0 (iI ((1 : Nat) : Int)))) (by omega) (by omega) ⟨Nat.le_refl _, fun v hv => ?_⟩
  · intro n y k hk ⟨h1, hy⟩
    refine .inr ⟨Mats0 y (upd y.1 k (iI 0)), ?_, by omega, fun v hv => ?_⟩
    · rw [fX7_canReach_L22]
      simp (disch := omega) only [xlet, xjoin, xnz_b0, xnz_b1, xnz_b, xcall_s, i_lit, i_add, i_sub, i_mul, i_neg, i_le, i_lt, i_eq, l_cmp0, l_cmplt, l_cmpgt, l_cmple, l_cmpge, b_zero, b_one, decide_eq_false_iff_not, decide_eq_true_eq, i_succ, xrd_n, vnar_b0]
      rw [if_neg (by omega)]
    · show upd y.1 k (iI 0) v = _
      by_cases e : v = k
      · subst e
        rw [upd_eq, hz0, decide_eq_false (by omega)]; rfl
      · rw [upd_ne e]
        exact hy v (by omega)
  · intro n y ⟨h1, hy⟩
    rw [fX7_canReach_L22]
    simp (disch := omega) only [i_le, i_lt, i_eq, l_cmp0, l_cmplt, l_cmpgt, l_cmple, l_cmpge, b_zero, b_one, decide_eq_false_iff_not, decide_eq_true_eq]
    rw [if_pos (by omega)]
    exact hlast y (fun v hv => hy v (by omega))
  · have : v = 0 := by omega
    subst this
    show upd t.1 0 _ 0 = _
    rw [upd_eq, hz0]; rfl
theorem c_waysAgree {N : Nat} (hN : 2000 ≤ N) (h : RB b B) (w : WB B) {m : Nat} (hm : 1 ≤ m ∧ m ≤ 999) : ∃ t', fX7_waysAgree N (iI (m : Int)) t b = some (iI 1, t', b) := by
  obtain ⟨t1, d1⟩ := c_canReach (t := t) hN h w hm
  obtain ⟨t2, d2⟩ := c_hasSet (t := t1) hN h w (m := (m : Int)) (by omega)
  refine ⟨t2, ?_⟩
  unfold fX7_waysAgree xjoin
  rw [d1, xcall_s, d2, xcall_s]
  dsimp only
  rw [if_pos rfl]
  rfl
end CM
