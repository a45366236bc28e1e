/-! ===== the reference's way of reading against the class's ===== -/
theorem rdN_0 (T : List Int) {m : Nat} (hm : 1 ≤ m) (q : Nat) : rdN T m q (-1) = if isDg (hr T q) = true then rdN T m q 0 else (-1, q) := by
  obtain ⟨m, rfl⟩ : ∃ k, m = k + 1 := ⟨m - 1, by omega⟩
  rw [rdN]
  by_cases e : isDg (hr T q) = true
  · rw [if_pos e, if_pos e, rdN, if_pos e]
    rfl
  · rw [if_neg e, if_neg e]
theorem rdN_nn (T : List Int) : ∀ (m q : Nat) (v : Int), 0 ≤ v → 0 ≤ (rdN T m q v).1 := by
  intro m
  induction m with
  | zero => intro q v h; exact h
  | succ m ih =>
    intro q v h
    rw [rdN]
    split
    · rename_i e
      have e0 := isDg_t.mp e
      exact ih _ _ (by omega)
    · exact h
/-- a wanted number, the reference's way -/
theorem dg_pts (T : List Int) (p : Nat) {c : Int} (hc : c = 100 ∨ c = 116) (r : List Int) : let m := if c = 116 then 3 else 2; let z := dgS T m (false, p); (z.2.1 = true → pts T (c :: r) p = (false, [], z.2.2)) ∧ (z.2.1 = false → pts T (c :: r) p = ((pts T r z.2.2).1, z.1 :: (pts T r z.2.2).2.1, (pts T r z.2.2).2.2)) := by
  intro m z
  have hm : 1 ≤ m := by show 1 ≤ (if c = 116 then 3 else 2); split <;> omega
  have hv : rdV T c (p + 1) = rdN T m (p + 1) (-1) := by
    unfold rdV
    rw [if_neg (by omega)]
  have e0 : z = dgS T m (false, p) := rfl
  unfold dgS at e0
  by_cases h : hr T p = 32
  · have y : ndS T 32 (false, p) = (false, p + 1) := by unfold ndS; rw [if_pos ⟨rfl, h⟩]
    rw [y] at e0
    dsimp only at e0
    by_cases h2 : isDg (hr T (p + 1)) = true
    · rw [if_pos ⟨rfl, h2⟩] at e0
      have hnn := rdN_nn T m (p + 1) 0 (Int.le_refl _)
      rw [e0]
      refine ⟨fun hh => absurd hh (by simp), fun _ => ?_⟩
      rw [pts, if_pos h, hv, rdN_0 T hm, if_pos h2, if_neg (by omega)]
    · rw [if_neg (fun hh => h2 hh.2)] at e0
      rw [e0]
      refine ⟨fun _ => ?_, fun hh => absurd hh (by simp)⟩
      rw [pts, if_pos h, hv, rdN_0 T hm, if_neg h2, if_pos rfl]
  · have y : ndS T 32 (false, p) = (true, p) := by unfold ndS; rw [if_neg (fun hh => h hh.2)]
    rw [y] at e0
    dsimp only at e0
    rw [if_neg (by simp)] at e0
    rw [e0]
    refine ⟨fun _ => ?_, fun hh => absurd hh (by simp)⟩
    rw [pts, if_neg h, decide_eq_false (by omega)]
/-- a wanted word, the reference's way: letter after letter -/
def ndW (T : List Int) : List Int → Bool × Nat → Bool × Nat
  | [], z => z
  | c :: r, z => ndW T r (ndS T c z)
theorem ndW_t (T : List Int) : ∀ (L : List Int) (p : Nat), ndW T L (true, p) = (true, p) := by
  intro L
  induction L with
  | nil => intro p; rfl
  | cons c r ih =>
    intro p
    rw [ndW]
    have : ndS T c (true, p) = (true, p) := by unfold ndS; rw [if_neg (by simp)]
    rw [this]
    exact ih p
theorem ndW_lcp (T : List Int) : ∀ (L : List Int) (p : Nat), ndW T L (false, p) = (decide (lcp T L p ≠ L.length), p + lcp T L p) := by
  intro L
  induction L with
  | nil => intro p; rfl
  | cons c r ih =>
    intro p
    rw [ndW, lcp]
    unfold ndS
    by_cases e : hr T p = c
    · rw [if_pos ⟨rfl, e⟩, if_pos e, ih (p + 1)]
      refine Prod.ext ?_ ?_
      · show decide _ = decide _
        rw [List.length_cons]
        exact decide_eq_decide.mpr (by omega)
      · show p + 1 + lcp T r (p + 1) = p + (lcp T r (p + 1) + 1)
        omega
    · rw [if_neg (fun hh => e hh.2), if_neg e, ndW_t]
      rw [decide_eq_true (by rw [List.length_cons]; omega)]
      rfl
