/-! ===== the class's reading ===== -/
def rdC (T : List Int) : Nat → Nat → List (Nat × List Int) → Bool × List (Nat × List Int) × Nat
  | 0, p, C => (false, C, p)
  | k + 1, p, C => if ((cmdS T p).1 = true ∧ hr T (cmdS T p).2.2 = 59) ∧ 0 < k then rdC T k ((cmdS T p).2.2 + 1) (C ++ (cmdS T p).2.1.toList) else ((cmdS T p).1, C ++ (cmdS T p).2.1.toList, (cmdS T p).2.2)
theorem wt_all : (List.range 9).all (fun j => decide (3 ≤ (wT j).length) && (decide (4 ≤ (wT j).length) || (decide ((wT (fmS j)).length ≠ 0) && decide ((wT (fmS j)).getD 0 0 ≠ 68)))) = true := by decide
theorem pts_end (T : List Int) : ∀ (L : List Int) (q : Nat), q ≤ (pts T L q).2.2 := by
  intro L
  induction L with
  | nil => intro q; exact Nat.le_refl _
  | cons c r ih =>
    intro q
    have hd : q + 1 ≤ (rdV T c (q + 1)).2 := by
      unfold rdV
      split
      · split
        · exact Nat.le_succ _
        · exact Nat.le_refl _
      · exact (rdN_end T _ _ _).1
    rw [pts]
    split
    · split
      · show q ≤ (rdV T c (q + 1)).2
        omega
      · exact Nat.le_trans (by omega) (ih (rdV T c (q + 1)).2)
    · exact Nat.le_refl _
theorem pts_one {T L : List Int} {q : Nat} (h : (pts T L q).1 = true) (h0 : L.length ≠ 0) (h1 : L.getD 0 0 ≠ 68) : q + 1 ≤ (pts T L q).2.2 := by
  cases L with
  | nil => exact absurd rfl h0
  | cons c r =>
    have hc : c ≠ 68 := h1
    have hd : q + 1 ≤ (rdV T c (q + 1)).2 := by
      unfold rdV
      split
      · split
        · exact Nat.le_succ _
        · exact Nat.le_refl _
      · exact (rdN_end T _ _ _).1
    rw [pts] at h ⊢
    by_cases e : hr T q = 32
    · rw [if_pos e] at h ⊢
      by_cases e2 : (rdV T c (q + 1)).1 = -1
      · rw [if_pos e2] at h ⊢
        exact hd
      · rw [if_neg e2] at h ⊢
        exact Nat.le_trans hd (pts_end T r _)
    · rw [if_neg e] at h
      exact absurd (of_decide_eq_true h) hc
theorem wdF_len (T : List Int) (p : Nat) : ∀ (k far : Nat), ∀ j, (wdF T p k (9 - k) far).1 = some j → k ≤ 9 → (wdF T p k (9 - k) far).2 = p + (wT j).length ∧ j < 9 := by
  intro k
  induction k with
  | zero => intro far j h _; simp [wdF] at h
  | succ k ih =>
    intro far j h hk
    rw [wdF, show 9 - (k + 1) + 1 = 9 - k by omega] at h ⊢
    by_cases e : lcp T (wT (9 - (k + 1))) p = (wT (9 - (k + 1))).length
    · rw [if_pos e] at h ⊢
      have : 9 - (k + 1) = j := Option.some.inj h
      subst this
      exact ⟨rfl, by omega⟩
    · rw [if_neg e] at h ⊢
      exact ih _ j h (by omega)
theorem cmd_4 {T : List Int} {p : Nat} (h : (cmdS T p).1 = true) : p + 4 ≤ (cmdS T p).2.2 ∧ (cmdS T p).2.1.toList.length = 1 := by
  have hw := wdF_len T p 9 0
  rw [Nat.sub_self] at hw
  unfold cmdS at h ⊢
  cases e : wdF T p 9 0 0 with
  | mk o q =>
    rw [e] at h hw
    cases o with
    | none => exact absurd h (by simp)
    | some j =>
      obtain ⟨h1, h2⟩ := hw j rfl (by omega)
      have h1 : q = p + (wT j).length := h1
      have h3 := List.all_eq_true.mp wt_all j (List.mem_range.mpr h2)
      simp only [Bool.and_eq_true, Bool.or_eq_true, decide_eq_true_eq] at h3
      have h : (pts T (wT (fmS j)) q).1 = true := h
      refine ⟨?_, rfl⟩
      show p + 4 ≤ (pts T (wT (fmS j)) q).2.2
      have h4 := pts_end T (wT (fmS j)) q
      rcases h3.2 with h5 | h5
      · omega
      · have := pts_one h h5.1 h5.2
        omega
theorem wdF_none {T : List Int} {p : Nat} (hp : T.length ≤ p) : ∀ (k far : Nat), k ≤ 9 → (wdF T p k (9 - k) far).1 = none := by
  intro k
  induction k with
  | zero => intro far _; rfl
  | succ k ih =>
    intro far hk
    have h3 := List.all_eq_true.mp wt_all (9 - (k + 1)) (List.mem_range.mpr (by omega))
    simp only [Bool.and_eq_true, Bool.or_eq_true, decide_eq_true_eq] at h3
    have hw := (wT_at (j := 9 - (k + 1)) (by omega)).2.2.1
    have e : lcp T (wT (9 - (k + 1))) p = 0 := by
      cases hL : wT (9 - (k + 1)) with
      | nil => rfl
      | cons c r =>
        have hc := (hw c (by rw [hL]; exact List.mem_cons_self)).1
        rw [lcp, if_neg (by rw [hr_out hp]; omega)]
    rw [wdF, show 9 - (k + 1) + 1 = 9 - k by omega, if_neg (by omega)]
    exact ih _ (by omega)
section CR
variable {N : Nat} {T : List Int}
theorem c_readLoop (hN : 2000 ≤ N) (w : TX T) (K : Int32 → ScrS → Option (Int32 × ScrS)) : ∀ (k n p : Nat) (C : List (Nat × List Int)) (s : ScrS), k ≤ 12 → k + 1 ≤ n → C.length = 12 - k → 5 * C.length ≤ p → RC s T (cmdS T p).2.2 → RCm s (C ++ (cmdS T p).2.1.toList) → (cmdS T p).2.2 ≤ T.length → ∃ s', fX9_read_L17 N K n (iB (cmdS T p).1) (iI ((13 - k : Nat) : Int)) s = K (iB (rdC T (k + 1) p C).1) s' ∧ RC s' T (rdC T (k + 1) p C).2.2 ∧ RCm s' (rdC T (k + 1) p C).2.1 ∧ (rdC T (k + 1) p C).2.2 ≤ T.length := by
  intro k
  have hl := w.1
  induction k with
  | zero =>
    intro n p C s hk hn hC hp hs hm hle
    obtain ⟨n, rfl⟩ : ∃ m, n = m + 1 := ⟨n - 1, by omega⟩
    rw [rdC, if_neg (by omega)]
    exact ⟨s, by rw [fX9_read_L17, if_pos (by decide)], hs, hm, hle⟩
  | succ k ih =>
    intro n p C s hk hn hC hp hs hm hle
    obtain ⟨n, rfl⟩ : ∃ m, n = m + 1 := ⟨n - 1, by omega⟩
    rw [rdC]
    have hlim : ¬ (12 : Int32) < iI ((13 - (k + 1) : Nat) : Int) := by
      rw [i_lit, i_lt (by omega) (by omega) (by omega) (by omega)]; omega
    cases hok : (cmdS T p).1 with
    | false =>
      rw [if_neg (by simp)]
      exact ⟨s, by rw [fX9_read_L17, if_neg hlim, if_pos (show iB false = 0 by decide)], hs, hm, hle⟩
    | true =>
      obtain ⟨c4, c1⟩ := cmd_4 hok
      by_cases h9 : hr T (cmdS T p).2.2 = 59
      · have hin := (hr_nn w (p := (cmdS T p).2.2)).mp (by omega)
        have hlen : (C ++ (cmdS T p).2.1.toList).length = 12 - k := by rw [List.length_append, c1]; omega
        have hpos : 5 * (C ++ (cmdS T p).2.1.toList).length ≤ (cmdS T p).2.2 + 1 := by rw [List.length_append, c1]; omega
        have hlim2 : (C ++ (cmdS T p).2.1.toList).length < 12 ∨ ((C ++ (cmdS T p).2.1.toList).length ≤ 12 ∧ (wdF T ((cmdS T p).2.2 + 1) 9 0 0).1 = none) := by
          by_cases h12 : (C ++ (cmdS T p).2.1.toList).length < 12
          · exact .inl h12
          · refine .inr ⟨by omega, ?_⟩
            have := wdF_none (T := T) (p := (cmdS T p).2.2 + 1) (by omega) 9 0 (by omega)
            rw [Nat.sub_self] at this
            exact this
        obtain ⟨s1, e1, e2, e3, e4, e5⟩ := c_readCommand hN (hs.at ((cmdS T p).2.2 + 1)) w (by omega) (C := C ++ (cmdS T p).2.1.toList) hm hlim2
        obtain ⟨s2, f1, f2, f3, f4⟩ := ih n ((cmdS T p).2.2 + 1) (C ++ (cmdS T p).2.1.toList) s1 (by omega) (by omega) hlen hpos e2 e3 e4
        rw [if_pos ⟨⟨rfl, h9⟩, by omega⟩]
        refine ⟨s2, ?_, f2, f3, f4⟩
        rw [fX9_read_L17, if_neg hlim, if_neg (show ¬ iB true = 0 by decide), show (59 : Int32) = iI 59 from rfl, c_isNext N hs w (by omega) (by omega), xcall_s, decide_eq_true h9, if_neg (show ¬ iB true = 0 by decide), hs.2.2]
        unfold xlet
        dsimp only
        rw [show iI ((cmdS T p).2.2 : Int) + 1 = iI (((cmdS T p).2.2 + 1 : Nat) : Int) by rw [i_lit, i_add]; rfl, e1, xcall_s, show iI ((13 - (k + 1) : Nat) : Int) + 1 = iI ((13 - k : Nat) : Int) by rw [i_lit, i_add]; congr 1; omega]
        exact f1
      · rw [if_neg (fun hh => h9 hh.1.2)]
        exact ⟨s, by rw [fX9_read_L17, if_neg hlim, if_neg (show ¬ iB true = 0 by decide), show (59 : Int32) = iI 59 from rfl, c_isNext N hs w (by omega) (by omega), xcall_s, decide_eq_false h9, if_pos (show iB false = 0 by decide)], hs, hm, hle⟩
def rdT (T : List Int) : Bool × List (Nat × List Int) × Nat := rdC T 13 0 []
theorem c_read (hN : 2000 ≤ N) {s : ScrS} (h1 : s.2.1 = iI (T.length : Int)) (h2 : AC s.1 T) (w : TX T) : ∃ s', fX9_read N s = some (iB ((rdT T).1 && decide ((rdT T).2.2 = T.length)), s') ∧ RC s' T (rdT T).2.2 ∧ RCm s' (rdT T).2.1 ∧ (rdT T).2.2 ≤ T.length := by
  have hl := w.1
  obtain ⟨s1, e1, e2, e3, e4, e5⟩ := c_readCommand (s := Scrs5 (Scrs4 s 0) 0) (p := 0) (T := T) hN ⟨h1, h2, rfl⟩ w (Nat.zero_le _) (C := []) ⟨rfl, fun i c hi => nil_at hi⟩ (.inl (by decide))
  unfold fX9_read
  rw [e1, xcall_s]
  unfold xjoin
  dsimp only
  obtain ⟨s2, f1, f2, f3, f4⟩ := c_readLoop hN w (fun v1_2 s0_2 => if v1_2 = 0 then xnz (xnar .boolean 0) (some (0, s0_2)) else if s0_2.2.2.2.2.2 = s0_2.2.1 then xnz (xnar .boolean 1) (some (1, s0_2)) else xnz (xnar .boolean 0) (some (0, s0_2))) 12 N 0 [] s1 (by omega) (by omega) rfl (by simp) e2 e3 e4
  refine ⟨s2, ?_, f2, f3, f4⟩
  refine Eq.trans f1 ?_
  have f4' : (rdT T).2.2 ≤ T.length := f4
  show (if iB (rdT T).1 = 0 then _ else _) = _
  have f2' : RC s2 T (rdT T).2.2 := f2
  cases (rdT T).1 with
  | false => rfl
  | true =>
    rw [if_neg (show ¬ iB true = 0 by decide), f2'.2.2, f2'.1]
    by_cases h : (rdT T).2.2 = T.length
    · rw [if_pos (by rw [h]), decide_eq_true h]
      rfl
    · rw [if_neg (by rw [i_eq (by omega) (by omega) (by omega) (by omega)]; omega), decide_eq_false h]
      rfl
end CR
