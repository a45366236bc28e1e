/-! ===== the reference's reading ===== -/
theorem pts_le {T : List Int} (w : TX T) : ∀ (L : List Int) (q : Nat), q ≤ T.length → (pts T L q).2.2 ≤ T.length := by
  intro L
  induction L with
  | nil => intro q h; exact h
  | cons c r ih =>
    intro q h
    rw [pts]
    split
    · rename_i e
      have hin := (hr_nn w (p := q)).mp (by omega)
      have hv := rdV_le w c (p := q + 1) (by omega)
      split
      · exact hv
      · exact ih _ hv
    · exact h
theorem cmd_le {T : List Int} (w : TX T) {p : Nat} (hp : p ≤ T.length) : (cmdS T p).2.2 ≤ T.length := by
  have hr9 := wdF_rng w hp 9 0 (by omega) (by omega)
  rw [Nat.sub_self] at hr9
  obtain ⟨r1, r2, r3⟩ := hr9
  unfold cmdS
  cases e : wdF T p 9 0 0 with
  | mk o q =>
    rw [e] at r3
    cases o with
    | none => exact r3
    | some j => exact pts_le w _ _ r3
theorem arS_le (j : Nat) : arS j ≤ 3 := by
  have h : (List.range 9).all (fun j => decide (arS j ≤ 3)) = true := by decide
  by_cases hj : j < 9
  · exact of_decide_eq_true (List.all_eq_true.mp h j (List.mem_range.mpr hj))
  · unfold arS
    rw [List.getD_eq_getElem?_getD, List.getElem?_eq_none (by simp only [List.length_cons, List.length_nil]; omega)]
    exact Nat.zero_le _
theorem PC.kept {f f' : Nat → Int32} {b0 : Nat} {c : Nat × List Int} (h : PC f b0 c) (hk : ∀ k, k < b0 + 4 → f' k = f k) : PC f' b0 c := by
  have h3 := arS_le c.1
  exact ⟨by rw [hk b0 (by omega)]; exact h.1, fun i hi => by rw [hk _ (by omega)]; exact h.2 i hi⟩
def PCs (f : Nat → Int32) (C : List (Nat × List Int)) : Prop := ∀ (i : Nat) (c : Nat × List Int), C[i]? = some c → PC f (4 * i) c
section ML
variable {N : Nat} {T : List Int}
def rdK (N n : Nat) (K : Int32 → MS → Option (Int32 × MS)) (c : Int32) (q : MS) : Option (Int32 × MS) := if q.2.2.2.2.2.2.2.2.2.2.2.2.2.2.1 = 0 then xcall (fX13_here N q) fun h => if h = 59 then fX13_runCommands_L14 N K n c 1 (Ms13 q (q.2.2.2.2.2.2.2.2.2.2.2.2.2.1 + 1)) else fX13_runCommands_L14 N K n c 0 (Ms13 q (q.2.2.2.2.2.2.2.2.2.2.2.2.2.1 + 0)) else fX13_runCommands_L14 N K n c 0 (Ms13 q (q.2.2.2.2.2.2.2.2.2.2.2.2.2.1 + 0))
theorem L14_1 (N n : Nat) (K : Int32 → MS → Option (Int32 × MS)) (c : Int32) (s : MS) : fX13_runCommands_L14 N K (n + 1) c 1 s = xcall (fX13_parsesCommand N (4 * c) s) fun q => rdK N n K (c + 1) q := rfl
theorem L14_0 (N n : Nat) (K : Int32 → MS → Option (Int32 × MS)) (c : Int32) (s : MS) : fX13_runCommands_L14 N K (n + 1) c 0 s = K c s := rfl
theorem m_readLoop (hN : 2000 ≤ N) (w : TX T) (K : Int32 → MS → Option (Int32 × MS)) : ∀ (k n p : Nat) (C : List (Nat × List Int)) (s : MS), k ≤ 12 → k + 2 ≤ n → C.length = 12 - k → 5 * C.length ≤ p → p ≤ T.length → RQ s T false p → PCs (pa s) C → ∃ s' c', fX13_runCommands_L14 N K n (iI (C.length : Int)) 1 s = K c' s' ∧ qT s s' ∧ RQ s' T (!(rdC T (k + 1) p C).1) (rdC T (k + 1) p C).2.2 ∧ ((rdC T (k + 1) p C).1 = true → c' = iI ((rdC T (k + 1) p C).2.1.length : Int) ∧ PCs (pa s') (rdC T (k + 1) p C).2.1) := by
  intro k
  have hl := w.1
  induction k with
  | zero =>
    intro n p C s hk hn hC hp hp2 h hPC
    obtain ⟨n, rfl⟩ : ∃ m, n = m + 2 := ⟨n - 2, by omega⟩
    have hwn := wdF_none (T := T) (p := p) (by omega) 9 0 (by omega)
    rw [Nat.sub_self] at hwn
    have hc1 : (cmdS T p).1 = false := by
      unfold cmdS
      cases e : wdF T p 9 0 0 with
      | mk o q =>
        rw [e] at hwn
        cases o with
        | none => rfl
        | some j => exact absurd hwn (by simp)
    obtain ⟨s1, a1, a2, a3, a4, a5⟩ := m_parsesCommand hN h w (by omega) (b0 := 4 * C.length) (by omega)
    have e4 : 4 * iI (C.length : Int) = iI ((4 * C.length : Nat) : Int) := by rw [i_lit, i_mul]; congr 1
    have e1 : iI (C.length : Int) + 1 = iI ((C.length + 1 : Nat) : Int) := by rw [i_lit, i_add]; rfl
    rw [hc1] at a3
    refine ⟨Ms13 s1 (iI ((cmdS T p).2.2 : Int)), iI ((C.length + 1 : Nat) : Int), ?_, a2.tr (qT.rf s1), ?_, ?_⟩
    · rw [L14_1, e4, a1, xcall_s, e1]
      unfold rdK
      rw [a3.2.2, if_neg (show ¬ iB (!false) = 0 by decide), L14_0, a3.2.1, show (0 : Int32) = iI 0 from rfl, i_add, Int.add_zero]
    · rw [rdC, if_neg (by omega), hc1]
      exact ⟨a3.1, rfl, a3.2.2⟩
    · rw [rdC, if_neg (by omega), hc1]
      exact fun hh => absurd hh (by simp)
  | succ k ih =>
    intro n p C s hk hn hC hp hp2 h hPC
    obtain ⟨n, rfl⟩ : ∃ m, n = m + 2 := ⟨n - 2, by omega⟩
    obtain ⟨s1, a1, a2, a3, a4, a5⟩ := m_parsesCommand hN h w (by omega) (b0 := 4 * C.length) (by omega)
    have e4 : 4 * iI (C.length : Int) = iI ((4 * C.length : Nat) : Int) := by rw [i_lit, i_mul]; congr 1
    have e1 : iI (C.length : Int) + 1 = iI ((C.length + 1 : Nat) : Int) := by rw [i_lit, i_add]; rfl
    rw [L14_1, e4, a1, xcall_s, e1, rdC]
    unfold rdK
    rw [a3.2.2]
    cases hok : (cmdS T p).1 with
    | false =>
      rw [hok] at a3
      rw [if_neg (show ¬ iB (!false) = 0 by decide), L14_0, a3.2.1, show (0 : Int32) = iI 0 from rfl, i_add, Int.add_zero, if_neg (by simp)]
      exact ⟨_, _, rfl, a2.tr (qT.rf s1), ⟨a3.1, rfl, a3.2.2⟩, fun hh => absurd hh (by simp)⟩
    | true =>
      rw [hok] at a3
      obtain ⟨c4, c1⟩ := cmd_4 hok
      obtain ⟨c, hc⟩ : ∃ c, (cmdS T p).2.1 = some c := by
        cases e : (cmdS T p).2.1 with
        | none => rw [e] at c1; exact absurd c1 (by decide)
        | some c => exact ⟨c, rfl⟩
      have a4 := a4 hok c hc
      have hCs : PCs (pa s1) (C ++ [c]) := fun i d hi => by
        have hi9 := lt_len hi
        rw [List.length_append] at hi9
        simp only [List.length_cons, List.length_nil] at hi9
        by_cases e9 : i < C.length
        · rw [List.getElem?_append_left e9] at hi
          exact (hPC i d hi).kept fun k hk9 => a5 k (by omega)
        · obtain rfl : i = C.length := by omega
          simp at hi
          subst hi
          exact a4
      have hlen : (C ++ [c]).length = C.length + 1 := by rw [List.length_append]; rfl
      have hto : (some c).toList = [c] := rfl
      have hbd : (cmdS T p).2.2 ≤ 100 := by
        by_cases h9 : (cmdS T p).2.2 ≤ 100
        · exact h9
        · exfalso
          have hcl : (cmdS T p).2.2 ≤ T.length := cmd_le w hp2
          omega
      have mh := m_here N a3 w hbd
      have hh := hr_rng w (cmdS T p).2.2
      rw [if_pos (show iB (!true) = 0 by decide), mh, xcall_s, hc, hto]
      by_cases h9 : hr T (cmdS T p).2.2 = 59
      · have hin := (hr_nn w (p := (cmdS T p).2.2)).mp (by omega)
        rw [if_pos (show iI (hr T (cmdS T p).2.2) = (59 : Int32) by rw [h9]; rfl), if_pos ⟨⟨rfl, h9⟩, by omega⟩, a3.2.1]
        have e5 : iI ((cmdS T p).2.2 : Int) + 1 = iI (((cmdS T p).2.2 + 1 : Nat) : Int) := by rw [i_lit, i_add]; rfl
        rw [e5]
        obtain ⟨s', c', f1, f2, f3, f4⟩ := ih (n + 1) ((cmdS T p).2.2 + 1) (C ++ [c]) (Ms13 s1 (iI (((cmdS T p).2.2 + 1 : Nat) : Int))) (by omega) (by omega) (by omega) (by omega) (by omega) ⟨a3.1, rfl, a3.2.2⟩ hCs
        rw [hlen] at f1
        exact ⟨s', c', f1, a2.tr ((qT.rf s1).tr f2), f3, f4⟩
      · rw [if_neg (show ¬ iI (hr T (cmdS T p).2.2) = (59 : Int32) by rw [i_lit, i_eq (by omega) (by omega) (by omega) (by omega)]; exact h9), if_neg (fun hh => h9 hh.1.2), L14_0, a3.2.1, show (0 : Int32) = iI 0 from rfl, i_add, Int.add_zero]
        exact ⟨_, _, rfl, a2.tr (qT.rf s1), ⟨a3.1, rfl, a3.2.2⟩, fun _ => ⟨by rw [hlen], hCs⟩⟩
end ML
