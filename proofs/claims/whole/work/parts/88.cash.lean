/-! ===== the cash that the prompts will bring ===== -/
def tw (h : Int) (x : SPe) : Int := if h < x.2.2.2.2.2 then 0 else min x.2.2.2.2.1 (1 + (h - x.2.2.2.2.2) / x.2.2.2.1)
def cst (h : Int) (x : SPe) : Int := (if x.1 = 0 then tw h x * x.2.2.1 else 0) - (if x.2.1 = 0 then tw h x * x.2.2.1 else 0)
def ntS (h : Int) : SP → Int
  | [] => 0
  | x :: r => cst h x + ntS h r
theorem tw_rng {n : Nat} {x : SPe} (w : WPe n x) {h : Int} (hh : 0 ≤ h ∧ h ≤ 24) : 0 ≤ tw h x ∧ tw h x ≤ 9 := by
  unfold WPe at w
  unfold tw
  split
  · omega
  · have := Int.ediv_nonneg (a := h - x.2.2.2.2.2) (b := x.2.2.2.1) (by omega) (by omega)
    omega
theorem tw_at {n : Nat} {x : SPe} (w : WPe n x) {h : Int} {j : Nat} (hj : (j : Int) ≤ x.2.2.2.2.1) (h1 : 0 < j → x.2.2.2.2.2 + ((j : Int) - 1) * x.2.2.2.1 ≤ h) (h2 : (j : Int) = x.2.2.2.2.1 ∨ h < x.2.2.2.2.2 + j * x.2.2.2.1) : tw h x = j := by
  unfold WPe at w
  unfold tw
  have hp : 0 < x.2.2.2.1 := by omega
  by_cases h0 : h < x.2.2.2.2.2
  · rw [if_pos h0]
    by_cases hj0 : 0 < j
    · have := h1 hj0
      have : 0 ≤ ((j : Int) - 1) * x.2.2.2.1 := Int.mul_nonneg (by omega) (by omega)
      omega
    · omega
  · rw [if_neg h0]
    by_cases hj0 : 0 < j
    · have e1 := (Int.le_ediv_iff_mul_le (a := (j : Int) - 1) (b := h - x.2.2.2.2.2) hp).mpr (by have := h1 hj0; omega)
      rcases h2 with h2 | h2
      · omega
      · have e2 := (Int.ediv_lt_iff_lt_mul (a := h - x.2.2.2.2.2) (b := (j : Int)) hp).mpr (by omega)
        omega
    · have hz : j = 0 := by omega
      subst hz
      rcases h2 with h2 | h2
      · have := Int.ediv_nonneg (a := h - x.2.2.2.2.2) (b := x.2.2.2.1) (by omega) (by omega)
        omega
      · simp at h2
        omega
section CA
variable {N : Nat} {t : ThlS} {s : MS} {S : SG} {p : ProS} {P : SP}
theorem c_timesWithin (hN : 2000 ≤ N) {n : Nat} {i : Nat} (hl : i < 6) {x : SPe} (g : p.1 i = iI x.1 ∧ p.2.1 i = iI x.2.1 ∧ p.2.2.1 i = iI x.2.2.1 ∧ p.2.2.2.1 i = iI x.2.2.2.1 ∧ p.2.2.2.2.1 i = iI x.2.2.2.2.2 ∧ p.2.2.2.2.2.1 i = iI x.2.2.2.2.1) (w : WPe n x) {h : Int} (hh : 0 ≤ h ∧ h ≤ 24) : fX8_timesWithin N (iI (i : Int)) (iI h) p = some (iI (tw h x)) := by
  obtain ⟨g1, g2, g3, g4, g5, g6⟩ := g
  have w0 := w
  unfold WPe at w
  unfold fX8_timesWithin
  rw [xrd_n hl (by omega)]
  unfold xlet xjoin
  dsimp only
  rw [g5]
  refine loopP (F := fun n (v : Int32) j => fX8_timesWithin_L10 N p (fun v3_3 => some v3_3) n (iI (i : Int)) (iI h) (iI (j : Int)) v) (I := fun v j => v = iI (x.2.2.2.2.2 + (j : Int) * x.2.2.2.1) ∧ ((j : Int) ≤ x.2.2.2.2.1 ∧ (0 < j → x.2.2.2.2.2 + ((j : Int) - 1) * x.2.2.2.1 ≤ h))) (m := 9) (P := fun r => r = _) ?_ ?_ N 0 _ (by omega) (by omega) ?_
  · intro n v j hj hv
    obtain ⟨v1, v2, v3⟩ := hv
    have b0 : 0 ≤ (j : Int) * x.2.2.2.1 := Int.mul_nonneg (by omega) (by omega)
    have b1 : (j : Int) * x.2.2.2.1 ≤ 9 * 12 := Int.mul_le_mul (by omega) (by omega) (by omega) (by omega)
    rw [fX8_timesWithin_L10, xrd_n hl (by omega), g6, v1]
    by_cases c1 : x.2.2.2.2.1 ≤ j
    · left
      rw [if_pos (by rw [i_le (by omega) (by omega) (by omega) (by omega)]; exact c1), tw_at w0 (j := j) v2 v3 (.inl (by omega))]
    · rw [if_neg (by rw [i_le (by omega) (by omega) (by omega) (by omega)]; exact c1)]
      by_cases c2 : h < x.2.2.2.2.2 + (j : Int) * x.2.2.2.1
      · left
        rw [if_pos (by rw [i_lt (by omega) (by omega) (by omega) (by omega)]; exact c2), tw_at w0 (j := j) v2 v3 (.inr c2)]
      · right
        refine ⟨iI (x.2.2.2.2.2 + ((j + 1 : Nat) : Int) * x.2.2.2.1), ?_, rfl, by omega, fun _ => by rw [show ((j + 1 : Nat) : Int) - 1 = j by omega]; omega⟩
        rw [if_neg (by rw [i_lt (by omega) (by omega) (by omega) (by omega)]; exact c2)]
        unfold xlet
        dsimp only
        rw [xrd_n hl (by omega), g4, i_add, show (1 : Int32) = iI 1 from rfl, i_add, i_succ]
        have e : x.2.2.2.2.2 + (j : Int) * x.2.2.2.1 + x.2.2.2.1 = x.2.2.2.2.2 + ((j + 1 : Nat) : Int) * x.2.2.2.1 := by
          rw [Int.natCast_add, Int.add_mul]
          omega
        rw [e]
  · intro n v hv
    obtain ⟨v1, v2, v3⟩ := hv
    rw [fX8_timesWithin_L10, xrd_n hl (by omega), g6, if_pos (by rw [i_le (by omega) (by omega) (by omega) (by omega)]; omega), tw_at w0 (j := 9) v2 v3 (.inl (by omega))]
  · refine ⟨by simp, by omega, fun h => absurd h (by omega)⟩
theorem cst_rng {n : Nat} {x : SPe} (w : WPe n x) {h : Int} (hh : 0 ≤ h ∧ h ≤ 24) : (0 ≤ tw h x * x.2.2.1 ∧ tw h x * x.2.2.1 ≤ 8991) ∧ -8991 ≤ cst h x ∧ cst h x ≤ 8991 := by
  have ht := tw_rng w hh
  unfold WPe at w
  have b0 : 0 ≤ tw h x * x.2.2.1 := Int.mul_nonneg (by omega) (by omega)
  have b1 : tw h x * x.2.2.1 ≤ 9 * 999 := Int.mul_le_mul (by omega) (by omega) (by omega) (by omega)
  unfold cst
  split <;> split <;> omega
theorem ntS_rng {n : Nat} {h : Int} (hh : 0 ≤ h ∧ h ≤ 24) : ∀ P : SP, (∀ x ∈ P, WPe n x) → -8991 * (P.length : Int) ≤ ntS h P ∧ ntS h P ≤ 8991 * (P.length : Int) := by
  intro P
  induction P with
  | nil => intro _; exact ⟨Int.le_refl _, Int.le_refl _⟩
  | cons x r ih =>
    intro hw
    have h1 := ih fun y hy => hw y (List.mem_cons_of_mem _ hy)
    have h2 := (cst_rng (hw x List.mem_cons_self) hh).2
    rw [ntS, List.length_cons]
    omega
theorem c_netDebits (hN : 2000 ≤ N) (hP : RP p P) {n : Nat} (w : WP P n) (hn : n ≤ 12) {h : Int} (hh : 0 ≤ h ∧ h ≤ 24) : fX8_netDebits N (iI 0) (iI h) p = some (iL (ntS h P)) := by
  have hl := w.1
  unfold fX8_netDebits xjoin
  refine loopP (F := fun n (v : Int64) i => fX8_netDebits_L5 N p _ n (iI 0) (iI h) v (iI (i : Int))) (I := fun v i => ∃ y, v = iL y ∧ y + ntS h (P.drop i) = ntS h P) (m := P.length) (P := fun r => r = _) ?_ ?_ N 0 (iL 0) (by omega) (by omega) ⟨0, rfl, by rw [List.drop_zero]; omega⟩
  · intro m v i hi hI
    obtain ⟨y, y1, y2⟩ := hI
    obtain ⟨x, hx, hd, hm⟩ := drop_at hi
    have g := hP.2 i x hx
    have q := (w.2 x hm).1
    have q0 := q
    unfold WPe at q
    have e1 := c_timesWithin hN (by omega) g q0 hh
    have ht := tw_rng q0 hh
    rw [hd, ntS] at y2
    refine .inr ⟨iL (y + cst h x), ?_, y + cst h x, rfl, by omega⟩
    rw [fX8_netDebits_L5, hP.1, if_neg (by rw [i_le (by omega) (by omega) (by omega) (by omega)]; omega), xrd_n (by omega) (by omega), e1, xcall_s]
    unfold xlet xjoin
    dsimp only
    rw [xrd_n (by omega) (by omega), g.1, g.2.2.1, i_toL (by omega) (by omega), i_toL (by omega) (by omega), l_mul, y1, Int.mul_comm x.2.2.1]
    have hz : ∀ v : Int, 0 ≤ v ∧ v < 1000 → ((iI v = iI 0) = (v = 0)) := fun v hv => by rw [i_eq (by omega) (by omega) (by omega) (by omega)]
    unfold cst
    by_cases c1 : x.1 = 0
    · rw [if_pos (by rw [c1]), if_pos c1, l_add, xrd_n (by omega) (by omega), g.2.1]
      by_cases c2 : x.2.1 = 0
      · rw [if_pos (by rw [c2]), if_pos c2, l_sub, show (1 : Int32) = iI 1 from rfl, i_add, i_succ]
        congr 2
        omega
      · rw [if_neg (by rw [i_eq (by omega) (by omega) (by omega) (by omega)]; exact c2), if_neg c2, show (1 : Int32) = iI 1 from rfl, i_add, i_succ]
        congr 2
        omega
    · rw [if_neg (by rw [i_eq (by omega) (by omega) (by omega) (by omega)]; exact c1), if_neg c1, xrd_n (by omega) (by omega), g.2.1]
      by_cases c2 : x.2.1 = 0
      · rw [if_pos (by rw [c2]), if_pos c2, l_sub, show (1 : Int32) = iI 1 from rfl, i_add, i_succ]
        congr 2
        omega
      · rw [if_neg (by rw [i_eq (by omega) (by omega) (by omega) (by omega)]; exact c2), if_neg c2, show (1 : Int32) = iI 1 from rfl, i_add, i_succ]
        congr 2
        omega
  · intro m v hI
    obtain ⟨y, y1, y2⟩ := hI
    rw [List.drop_eq_nil_of_le (Nat.le_refl _)] at y2
    rw [fX8_netDebits_L5, hP.1, if_pos (by rw [i_le (by omega) (by omega) (by omega) (by omega)]; omega), y1]
    rw [← y2]
    simp [ntS]
theorem m_cashLoop (hN : 2000 ≤ N) (hM : GG s.1 S) (w : WG S) {h : Int} (hh : 0 ≤ h ∧ h ≤ 24) (K : Int32 → MS → Option (Int64 × MS)) (b0 : Int) : fX13_cashIn_L25 N K N (iI h) (iI b0) (iI 0) s = K (iI (b0 + ntS h (gP S))) s := by
  have hl := w.fr.2.1
  have hg := w.2.2.2.2.2.1
  refine loopP (F := fun n (v : Int32) i => fX13_cashIn_L25 N K n (iI h) v (iI (i : Int)) s) (I := fun v i => ∃ y, v = iI (b0 + y) ∧ y + ntS h ((gP S).drop i) = ntS h (gP S)) (m := (gP S).length) (P := fun r => r = _) ?_ ?_ N 0 (iI b0) (by omega) (by omega) ⟨0, by rw [Int.add_zero], by rw [List.drop_zero]; omega⟩
  · intro m v i hi hI
    obtain ⟨y, y1, y2⟩ := hI
    obtain ⟨x, hx, hd, hm⟩ := drop_at hi
    obtain ⟨k1, k2, k3, k4, k5, k6⟩ := hM.2.2.1.2 i x hx
    have q := (w.2.2.1.2 x hm).1
    have q0 := q
    have qt := (w.2.2.1.2 x hm).2
    have hn12 := w.1.2.1
    unfold WPe at q
    have ht := tw_rng q0 hh
    rw [hd, ntS] at y2
    refine .inr ⟨iI (b0 + (y + cst h x)), ?_, y + cst h x, rfl, by omega⟩
    have ew : fX13_waits N (iI (i : Int)) s = some (iI x.2.2.2.2.2) := by
      unfold fX13_waits
      rw [show (175 : Int32) = iI ((175 : Nat) : Int) from rfl, show (187 : Int32) = iI ((187 : Nat) : Int) from rfl, i_add, i_add, xrd_at (k := 175 + i) (by congr 1) (by omega) (by omega), xrd_at (k := 187 + i) (by congr 1) (by omega) (by omega), k4, k6, hM.2.2.2.2.2.1, i_sub, i_sub]
      rw [show x.2.2.2.1 - ((gH S : Int) - ((gH S : Int) + x.2.2.2.2.2 - x.2.2.2.1)) = x.2.2.2.2.2 by omega]
    have hd9 : (h - x.2.2.2.2.2).tdiv x.2.2.2.1 = (h - x.2.2.2.2.2) / x.2.2.2.1 ∨ h < x.2.2.2.2.2 := by
      by_cases c : h < x.2.2.2.2.2
      · exact .inr c
      · exact .inl (Int.tdiv_eq_ediv_of_nonneg (by omega))
    rw [fX13_cashIn_L25, hM.2.2.1.1, if_neg (by rw [i_le (by omega) (by omega) (by omega) (by omega)]; omega), ew, xcall_s]
    unfold xjoin
    dsimp only
    by_cases c1 : x.2.2.2.2.2 ≤ h
    · have hq : 0 ≤ (h - x.2.2.2.2.2) / x.2.2.2.1 := Int.ediv_nonneg (by omega) (by omega)
      have hq2 : (h - x.2.2.2.2.2) / x.2.2.2.1 ≤ h - x.2.2.2.2.2 := Int.ediv_le_self _ (by omega)
      rw [if_pos (by rw [i_le (by omega) (by omega) (by omega) (by omega)]; exact c1), xcall_s, show (175 : Int32) = iI ((175 : Nat) : Int) from rfl, i_add, xrd_at (k := 175 + i) (by congr 1) (by omega) (by omega), k4, xnz_d (by rw [i_lit, i_eq (by omega) (by omega) (by omega) (by omega)]; omega), i_sub, i_div (by omega) (by omega) (by omega) (by omega), Int.tdiv_eq_ediv_of_nonneg (by omega), show (1 : Int32) = iI 1 from rfl, i_add, show (181 : Int32) = iI ((181 : Nat) : Int) from rfl, i_add, xrd_at (k := 181 + i) (by congr 1) (by omega) (by omega), k5]
      by_cases c2 : x.2.2.2.2.1 ≤ 1 + (h - x.2.2.2.2.2) / x.2.2.2.1
      · have eT : tw h x = x.2.2.2.2.1 := by unfold tw; rw [if_neg (by omega)]; omega
        rw [if_pos (by rw [i_le (by omega) (by omega) (by omega) (by omega)]; exact c2), xrd_at (k := 181 + i) (by congr 1) (by omega) (by omega), k5, ← eT]
        rw [show (157 : Int32) = iI ((157 : Nat) : Int) from rfl, show (163 : Int32) = iI ((163 : Nat) : Int) from rfl, show (169 : Int32) = iI ((169 : Nat) : Int) from rfl, i_add, i_add, i_add, xrd_at (k := 157 + i) (by congr 1) (by omega) (by omega), k1]
        unfold cst xlet
        dsimp only
        by_cases c3 : x.1 = 0
        · rw [if_pos (by rw [c3]; rfl), if_pos c3, xrd_at (k := 169 + i) (by congr 1) (by omega) (by omega), k3, xrd_at (k := 163 + i) (by congr 1) (by omega) (by omega), k2]
          by_cases c4 : x.2.1 = 0
          · rw [if_pos (by rw [c4]; rfl), if_pos c4, xrd_at (k := 169 + i) (by congr 1) (by omega) (by omega), k3, y1, i_mul, i_add, i_sub, i_add, i_succ]
            congr 2
            omega
          · rw [if_neg (by rw [i_lit, i_eq (by omega) (by omega) (by omega) (by omega)]; exact c4), if_neg c4, y1, i_mul, i_lit, i_add, i_sub, i_add, i_succ]
            congr 2
            omega
        · rw [if_neg (by rw [i_lit, i_eq (by omega) (by omega) (by omega) (by omega)]; exact c3), if_neg c3, xrd_at (k := 163 + i) (by congr 1) (by omega) (by omega), k2]
          by_cases c4 : x.2.1 = 0
          · rw [if_pos (by rw [c4]; rfl), if_pos c4, xrd_at (k := 169 + i) (by congr 1) (by omega) (by omega), k3, y1, i_mul, i_lit, i_add, i_sub, i_add, i_succ]
            congr 2
            omega
          · rw [if_neg (by rw [i_lit, i_eq (by omega) (by omega) (by omega) (by omega)]; exact c4), if_neg c4, y1, i_lit, i_add, i_sub, i_add, i_succ]
            congr 2
            omega
      · have eT : tw h x = 1 + (h - x.2.2.2.2.2) / x.2.2.2.1 := by unfold tw; rw [if_neg (by omega)]; omega
        rw [if_neg (by rw [i_le (by omega) (by omega) (by omega) (by omega)]; exact c2), ← eT]
        rw [show (157 : Int32) = iI ((157 : Nat) : Int) from rfl, show (163 : Int32) = iI ((163 : Nat) : Int) from rfl, show (169 : Int32) = iI ((169 : Nat) : Int) from rfl, i_add, i_add, i_add, xrd_at (k := 157 + i) (by congr 1) (by omega) (by omega), k1]
        unfold cst xlet
        dsimp only
        by_cases c3 : x.1 = 0
        · rw [if_pos (by rw [c3]; rfl), if_pos c3, xrd_at (k := 169 + i) (by congr 1) (by omega) (by omega), k3, xrd_at (k := 163 + i) (by congr 1) (by omega) (by omega), k2]
          by_cases c4 : x.2.1 = 0
          · rw [if_pos (by rw [c4]; rfl), if_pos c4, xrd_at (k := 169 + i) (by congr 1) (by omega) (by omega), k3, y1, i_mul, i_add, i_sub, i_add, i_succ]
            congr 2
            omega
          · rw [if_neg (by rw [i_lit, i_eq (by omega) (by omega) (by omega) (by omega)]; exact c4), if_neg c4, y1, i_mul, i_lit, i_add, i_sub, i_add, i_succ]
            congr 2
            omega
        · rw [if_neg (by rw [i_lit, i_eq (by omega) (by omega) (by omega) (by omega)]; exact c3), if_neg c3, xrd_at (k := 163 + i) (by congr 1) (by omega) (by omega), k2]
          by_cases c4 : x.2.1 = 0
          · rw [if_pos (by rw [c4]; rfl), if_pos c4, xrd_at (k := 169 + i) (by congr 1) (by omega) (by omega), k3, y1, i_mul, i_lit, i_add, i_sub, i_add, i_succ]
            congr 2
            omega
          · rw [if_neg (by rw [i_lit, i_eq (by omega) (by omega) (by omega) (by omega)]; exact c4), if_neg c4, y1, i_lit, i_add, i_sub, i_add, i_succ]
            congr 2
            omega
    · have eT : tw h x = 0 := by unfold tw; rw [if_pos (by omega)]
      rw [if_neg (by rw [i_le (by omega) (by omega) (by omega) (by omega)]; exact c1), show (181 : Int32) = iI ((181 : Nat) : Int) from rfl, i_add, xrd_at (k := 181 + i) (by congr 1) (by omega) (by omega), k5, if_neg (by rw [i_lit, i_le (by omega) (by omega) (by omega) (by omega)]; omega), show (1 : Int32) = iI 1 from rfl]
      have e0 : (0 : Int32) = iI (tw h x) := by rw [eT]; rfl
      have e9 : ∀ z : Int32, 0 * z = iI (tw h x) * z := fun z => by rw [e0]
      simp only [e9]
      rw [show (157 : Int32) = iI ((157 : Nat) : Int) from rfl, show (163 : Int32) = iI ((163 : Nat) : Int) from rfl, show (169 : Int32) = iI ((169 : Nat) : Int) from rfl, i_add, i_add, i_add, xrd_at (k := 157 + i) (by congr 1) (by omega) (by omega), k1]
      unfold cst xlet
      dsimp only
      by_cases c3 : x.1 = 0
      · rw [if_pos (by rw [c3]; rfl), if_pos c3, xrd_at (k := 169 + i) (by congr 1) (by omega) (by omega), k3, xrd_at (k := 163 + i) (by congr 1) (by omega) (by omega), k2]
        by_cases c4 : x.2.1 = 0
        · rw [if_pos (by rw [c4]; rfl), if_pos c4, xrd_at (k := 169 + i) (by congr 1) (by omega) (by omega), k3, y1, i_mul, i_add, i_sub, i_add, i_succ]
          congr 2
          omega
        · rw [if_neg (by rw [i_lit, i_eq (by omega) (by omega) (by omega) (by omega)]; exact c4), if_neg c4, y1, i_mul, i_lit, i_add, i_sub, i_add, i_succ]
          congr 2
          omega
      · rw [if_neg (by rw [i_lit, i_eq (by omega) (by omega) (by omega) (by omega)]; exact c3), if_neg c3, xrd_at (k := 163 + i) (by congr 1) (by omega) (by omega), k2]
        by_cases c4 : x.2.1 = 0
        · rw [if_pos (by rw [c4]; rfl), if_pos c4, xrd_at (k := 169 + i) (by congr 1) (by omega) (by omega), k3, y1, i_mul, i_lit, i_add, i_sub, i_add, i_succ]
          congr 2
          omega
        · rw [if_neg (by rw [i_lit, i_eq (by omega) (by omega) (by omega) (by omega)]; exact c4), if_neg c4, y1, i_lit, i_add, i_sub, i_add, i_succ]
          congr 2
          omega
  · intro m v hI
    obtain ⟨y, y1, y2⟩ := hI
    rw [List.drop_eq_nil_of_le (Nat.le_refl _)] at y2
    rw [fX13_cashIn_L25, hM.2.2.1.1, if_pos (by rw [i_le (by omega) (by omega) (by omega) (by omega)]; omega), y1]
    rw [← y2]
    simp [ntS]
theorem e_cashIn (hN : 2000 ≤ N) (hR : RBo t.1 S) (hM : GG s.1 S) (w : WG S) {z : Int} (hz : -2147483648 ≤ z ∧ z < 2147483648) : RD [3] (fX12_cashIn N (iI z) t) (fX13_cashIn N (iI z) s) s := by
  have hn := w.1.1
  have hn2 := w.1.2.1
  have hb := bal_rng w.wa (i := 0) (by omega)
  have hl := w.fr.2.1
  unfold fX12_cashIn fX13_cashIn
  rw [show (24 : Int32) = iI 24 from rfl, show (0 : Int32) = iI 0 from rfl, c_within N hz (by omega) (by omega), m_in N hz (by omega) (by omega), xcall_s, xcall_s]
  by_cases h : 0 ≤ z ∧ z ≤ 24
  · have hr := ntS_rng h (gP S) fun x hx => (w.2.2.1.2 x hx).1
    rw [decide_eq_true h, if_neg (show ¬ iB true = iI 0 by decide), if_neg (show ¬ iB true = iI 0 by decide)]
    have e1 : fX1_balanceAt N (iI 0) t.1.1 = some (iL (bal (gA S) 0)) := c_bal N hR.1 w.wa (i := 0) (by omega)
    have e2 : fX13_balanceOf N (iI 0) s = some (iI (bal (gA S) 0)) := m_bal N hM.1 w.wa (i := 0) (by omega)
    refine rd_ok (iL (bal (gA S) 0 + ntS z (gP S))) ?_ ?_
    · rw [e1, xcall_s, c_netDebits hN hR.2.2.1 w.2.2.1 hn2 h, xcall_s, l_add]
    · rw [e2, xcall_s]
      unfold xjoin
      dsimp only
      rw [m_cashLoop hN hM w h, m_done, xcall_s, i_toL (by omega) (by omega)]
  · rw [decide_eq_false h]
    exact rd_no 3 0 ((iI 0).toInt64) rfl (by decide) (by decide) rfl
end CA
