/-! ===== the cash that the prompts will bring ===== -/
def tw (h : Int) (x : SPe) : Int := if h < x.2.2.2.2.2 then 0 else min x.2.2.2.2.1 (1 + (h - x.2.2.2.2.2) / x.2.2.2.1)
def cst (h : Int) (x : SPe) : Int := (if x.1 = 0 then tw h x * x.2.2.1 else 0) - (if x.2.1 = 0 then tw h x * x.2.2.1 else 0)
def ntS (h : Int) : SP → Int
  | [] => 0
  | x :: r => cst h x + ntS h r
theorem tw_rng {n : Nat} {x : SPe} (w : WPe n x) {h : Int} (hh : 0 ≤ h ∧ h ≤ 24) : 0 ≤ tw h x ∧ tw h x ≤ 9 := by
  unfold WPe at w
  unfold tw
  split
  · omega
  · have := Int.ediv_nonneg (a := h - x.2.2.2.2.2) (b := x.2.2.2.1) (by omega) (by omega)
    omega
theorem tw_at {n : Nat} {x : SPe} (w : WPe n x) {h : Int} {j : Nat} (hj : (j : Int) ≤ x.2.2.2.2.1) (h1 : 0 < j → x.2.2.2.2.2 + ((j : Int) - 1) * x.2.2.2.1 ≤ h) (h2 : (j : Int) = x.2.2.2.2.1 ∨ h < x.2.2.2.2.2 + j * x.2.2.2.1) : tw h x = j := by
  unfold WPe at w
  unfold tw
  have hp : 0 < x.2.2.2.1 := by omega
  by_cases h0 : h < x.2.2.2.2.2
  · rw [if_pos h0]
    by_cases hj0 : 0 < j
    · have := h1 hj0
      have : 0 ≤ ((j : Int) - 1) * x.2.2.2.1 := Int.mul_nonneg (by omega) (by omega)
      omega
    · omega
  · rw [if_neg h0]
    by_cases hj0 : 0 < j
    · have e1 := (Int.le_ediv_iff_mul_le (a := (j : Int) - 1) (b := h - x.2.2.2.2.2) hp).mpr (by have := h1 hj0; omega)
      rcases h2 with h2 | h2
      · omega
      · have e2 := (Int.ediv_lt_iff_lt_mul (a := h - x.2.2.2.2.2) (b := (j : Int)) hp).mpr (by omega)
        omega
    · have hz : j = 0 := by omega
      subst hz
      rcases h2 with h2 | h2
      · have := Int.ediv_nonneg (a := h - x.2.2.2.2.2) (b := x.2.2.2.1) (by omega) (by omega)
        omega
      · simp at h2
        omega
section CA
variable {N : Nat} {t : ThlS} {s : MS} {S : SG} {p : ProS} {P : SP}
theorem c_timesWithin (hN : 2000 ≤ N) {n : Nat} {i : Nat} (hl : i < 6) {x : SPe} (g : p.1 i = iI x.1 ∧ p.2.1 i = iI x.2.1 ∧ p.2.2.1 i = iI x.2.2.1 ∧ p.2.2.2.1 i = iI x.2.2.2.1 ∧ p.2.2.2.2.1 i = iI x.2.2.2.2.2 ∧ p.2.2.2.2.2.1 i = iI x.2.2.2.2.1) (w : WPe n x) {h : Int} (hh : 0 ≤ h ∧ h ≤ 24) : fX8_timesWithin N (iI (i : Int)) (iI h) p = some (iI (tw h x)) := by
  obtain ⟨g1, g2, g3, g4, g5, g6⟩ := g
  have w0 := w
  unfold WPe at w
  unfold fX8_timesWithin
  rw [xrd_n hl (by omega)]
  unfold xlet xjoin
  dsimp only
  rw [g5]
  refine loopP (F := fun n (v : Int32) j => fX8_timesWithin_L10 N p (fun v3_3 => some v3_3) n (iI (i : Int)) (iI h) (iI (j : Int)) v) (I := fun v j => v = iI (x.2.2.2.2.2 + (j : Int) * x.2.2.2.1) ∧ ((j : Int) ≤ x.2.2.2.2.1 ∧ (0 < j → x.2.2.2.2.2 + ((j : Int) - 1) * x.2.2.2.1 ≤ h))) (m := 9) (P := fun r => r = _) ?_ ?_ N 0 _ (by omega) (by omega) ?_
  · intro n v j hj hv
    obtain ⟨v1, v2, v3⟩ := hv
    have b0 : 0 ≤ (j : Int) * x.2.2.2.1 := Int.mul_nonneg (by omega) (by omega)
    have b1 : (j : Int) * x.2.2.2.1 ≤ 9 * 12 := Int.mul_le_mul (by omega) (by omega) (by omega) (by omega)
    rw [fX8_timesWithin_L10, xrd_n hl (by omega), g6, v1]
    by_cases c1 : x.2.2.2.2.1 ≤ j
    · left
      rw [if_pos (by rw [i_le (by omega) (by omega) (by omega) (by omega)]; exact c1), tw_at w0 (j := j) v2 v3 (.inl (by omega))]
    · rw [if_neg (by rw [i_le (by omega) (by omega) (by omega) (by omega)]; exact c1)]
      by_cases c2 : h < x.2.2.2.2.2 + (j : Int) * x.2.2.2.1
      · left
        rw [if_pos (by rw [i_lt (by omega) (by omega) (by omega) (by omega)]; exact c2), tw_at w0 (j := j) v2 v3 (.inr c2)]
      · right
        refine ⟨iI (x.2.2.2.2.2 + ((j + 1 : Nat) : Int) * x.2.2.2.1), ?_, rfl, by omega, fun _ => by rw [show ((j + 1 : Nat) : Int) - 1 = j by omega]; omega⟩
        rw [if_neg (by rw [i_lt (by omega) (by omega) (by omega) (by omega)]; exact c2)]
        unfold xlet
        dsimp only
        rw [xrd_n hl (by omega), g4, i_add, show (1 : Int32) = iI 1 from rfl, i_add, i_succ]
        have e : x.2.2.2.2.2 + (j : Int) * x.2.2.2.1 + x.2.2.2.1 = x.2.2.2.2.2 + ((j + 1 : Nat) : Int) * x.2.2.2.1 := by
          rw [Int.natCast_add, Int.add_mul]
          omega
        rw [e]
  · intro n v hv
    obtain ⟨v1, v2, v3⟩ := hv
    rw [fX8_timesWithin_L10, xrd_n hl (by omega), g6, if_pos (by rw [i_le (by omega) (by omega) (by omega) (by omega)]; omega), tw_at w0 (j := 9) v2 v3 (.inl (by omega))]
  · refine ⟨by simp, by omega, fun h => absurd h (by omega)⟩
theorem cst_rng {n : Nat} {x : SPe} (w : WPe n x) {h : Int} (hh : 0 ≤ h ∧ h ≤ 24) : (0 ≤ tw h x * x.2.2.1 ∧ tw h x * x.2.2.1 ≤ 8991) ∧ -8991 ≤ cst h x ∧ cst h x ≤ 8991 := by
  have ht := tw_rng w hh
  unfold WPe at w
  have b0 : 0 ≤ tw h x * x.2.2.1 := Int.mul_nonneg (by omega) (by omega)
  have b1 : tw h x * x.2.2.1 ≤ 9 * 999 := Int.mul_le_mul (by omega) (by omega) (by omega) (by omega)
  unfold cst
  split <;> split <;> omega
theorem ntS_rng {n : Nat} {h : Int} (hh : 0 ≤ h ∧ h ≤ 24) : ∀ P : SP, (∀ x ∈ P, WPe n x) → -8991 * (P.length : Int) ≤ ntS h P ∧ ntS h P ≤ 8991 * (P.length : Int) := by
  intro P
  induction P with
  | nil => intro _; exact ⟨Int.le_refl _, Int.le_refl _⟩
  | cons x r ih =>
    intro hw
    have h1 := ih fun y hy => hw y (List.mem_cons_of_mem _ hy)
    have h2 := (cst_rng (hw x List.mem_cons_self) hh).2
    rw [ntS, List.length_cons]
    omega
theorem c_netDebits (hN : 2000 ≤ N) (hP : RP p P) {n : Nat} (w : WP P n) (hn : n ≤ 12) {h : Int} (hh : 0 ≤ h ∧ h ≤ 24) : fX8_netDebits N (iI 0) (iI h) p = some (iL (ntS h P)) := by
  have hl := w.1
  unfold fX8_netDebits xjoin
  refine loopP (F := fun n (v : Int64) i => fX8_netDebits_L5 N p _ n (iI 0) (iI h) v (iI (i : Int))) (I := fun v i => ∃ y, v = iL y ∧ y + ntS h (P.drop i) = ntS h P) (m := P.length) (P := fun r => r = _) ?_ ?_ N 0 (iL 0) (by omega) (by omega) ⟨0, rfl, by rw [List.drop_zero]; omega⟩
  · intro m v i hi hI
    obtain ⟨y, y1, y2⟩ := hI
    obtain ⟨x, hx, hd, hm⟩ := drop_at hi
    have g := hP.2 i x hx
    have q := (w.2 x hm).1
    have q0 := q
    unfold WPe at q
    have e1 := c_timesWithin hN (by omega) g q0 hh
    have ht := tw_rng q0 hh
    rw [hd, ntS] at y2
    refine .inr ⟨iL (y + cst h x), ?_, y + cst h x, rfl, by omega⟩
    rw [fX8_netDebits_L5, hP.1, if_neg (by rw [i_le (by omega) (by omega) (by omega) (by omega)]; omega), xrd_n (by omega) (by omega), e1, xcall_s]
    unfold xlet xjoin
    dsimp only
    rw [xrd_n (by omega) (by omega), g.1, g.2.2.1, i_toL (by omega) (by omega), i_toL (by omega) (by omega), l_mul, y1, Int.mul_comm x.2.2.1]
    have hz : ∀ v : Int, 0 ≤ v ∧ v < 1000 → ((iI v = iI 0) = (v = 0)) := fun v hv => by rw [i_eq (by omega) (by omega) (by omega) (by omega)]
    unfold cst
    by_cases c1 : x.1 = 0
    · rw [if_pos (by rw [c1]), if_pos c1, l_add, xrd_n (by omega) (by omega), g.2.1]
      by_cases c2 : x.2.1 = 0
      · rw [if_pos (by rw [c2]), if_pos c2, l_sub, show (1 : Int32) = iI 1 from rfl, i_add, i_succ]
        congr 2
        omega
      · rw [if_neg (by rw [i_eq (by omega) (by omega) (by omega) (by omega)]; exact c2), if_neg c2, show (1 : Int32) = iI 1 from rfl, i_add, i_succ]
        congr 2
        omega
    · rw [if_neg (by rw [i_eq (by omega) (by omega) (by omega) (by omega)]; exact c1), if_neg c1, xrd_n (by omega) (by omega), g.2.1]
      by_cases c2 : x.2.1 = 0
      · rw [if_pos (by rw [c2]), if_pos c2, l_sub, show (1 : Int32) = iI 1 from rfl, i_add, i_succ]
        congr 2
        omega
      · rw [if_neg (by rw [i_eq (by omega) (by omega) (by omega) (by omega)]; exact c2), if_neg c2, show (1 : Int32) = iI 1 from rfl, i_add, i_succ]
        congr 2
        omega
  · intro m v hI
    obtain ⟨y, y1, y2⟩ := hI
    rw [List.drop_eq_nil_of_le (Nat.le_refl _)] at y2
    rw [fX8_netDebits_L5, hP.1, if_pos (by rw [i_le (by omega) (by omega) (by omega) (by omega)]; omega), y1]
    rw [← y2]
    simp [ntS]
end CA
