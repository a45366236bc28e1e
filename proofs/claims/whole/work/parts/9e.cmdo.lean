/-! ===== the reference's commands: open ===== -/
def opS (T : List Int) (y : Bool × Nat) : Bool × Nat × Int × Int := if y.1 = false ∧ isKdB (hr T y.2) = true then (if hr T (y.2 + 1) = 32 then ((dgS T 2 (false, y.2 + 1)).2.1, (dgS T 2 (false, y.2 + 1)).2.2, hr T y.2, (dgS T 2 (false, y.2 + 1)).1) else (false, y.2 + 1, hr T y.2, -1)) else (true, y.2, hr T y.2, -1)
section CO
variable {N : Nat} {s : MS} {T : List Int} {p : Nat}
theorem m_parsesOpen (hN : 2000 ≤ N) (h : RQ s T false p) (w : TX T) (hp : p ≤ 70) {b0 : Nat} (hb : b0 + 4 < 240) : ∃ s', fX13_parsesOpen N (iI (b0 : Int)) s = some s' ∧ qT s s' ∧ RQ s' T (opS T (ndS T 32 (nW T [112, 101, 110] p))).1 (opS T (ndS T 32 (nW T [112, 101, 110] p))).2.1 ∧ pa s' = upd (upd (pa s) (b0 + 1) (iI (opS T (ndS T 32 (nW T [112, 101, 110] p))).2.2.1)) (b0 + 2) (iI (opS T (ndS T 32 (nW T [112, 101, 110] p))).2.2.2) := by
  have l0 := lcp_len T [112, 101, 110] p
  have hz : (nW T [112, 101, 110] p).2 ≤ p + 3 := by show p + lcp T [112, 101, 110] p ≤ p + 3; simp only [List.length_cons, List.length_nil] at l0; omega
  have l1 := ndS_le T 32 (nW T [112, 101, 110] p)
  obtain ⟨s1, a1, a2, a3⟩ := m_three0 N h w (by omega) (c := 112) (d := 101) (e := 110) (by omega) (by omega) (by omega)
  obtain ⟨s2, c1, c2, c3⟩ := m_nd N a3 w (by omega) (c := 32) (by omega)
  have c3 : RQ s2 T (ndS T 32 (nW T [112, 101, 110] p)).1 (ndS T 32 (nW T [112, 101, 110] p)).2 := c3
  have q2 := (a2.tr c2).t
  have e2 : pa s2 = pa s := by rw [c2.pa, a2.pa]
  unfold fX13_parsesOpen
  rw [show (112 : Int32) = iI 112 from rfl, show (101 : Int32) = iI 101 from rfl, show (110 : Int32) = iI 110 from rfl, a1, xcall_s, show (32 : Int32) = iI 32 from rfl, c1, xcall_s]
  generalize ndS T 32 (nW T [112, 101, 110] p) = y at *
  obtain ⟨b, q⟩ := y
  simp only at l1 c3
  have hh := hr_rng w q
  have mh := m_here N c3 w (by omega)
  have ix : iI (b0 : Int) + 1 = iI ((b0 + 1 : Nat) : Int) := by rw [i_lit, i_add]; rfl
  have ix2 : iI (b0 : Int) + 2 = iI ((b0 + 2 : Nat) : Int) := by rw [i_lit, i_add]; rfl
  have wr : ∀ s3 : MS, s3 = Ms14 s2 1 → ∃ s', (xcall (fX13_here N s3) fun q5 => xrd 240 (iI (b0 : Int) + 1) fun k6 => xlet (upd (pa s2) k6 q5) fun g7 => xlet (s2.2.2.2.2.2.2.2.2.2.2.2.2.2.1 + 0) fun x9 => xrd 240 (iI (b0 : Int) + 2) fun k11 => xlet (upd g7 k11 (-1)) fun g12 => some (Ms15 (Ms13 (Ms15 s3 g7) x9) g12)) = some s' ∧ qT s2 s' ∧ RQ s' T true q ∧ pa s' = upd (upd (pa s2) (b0 + 1) (iI (hr T q))) (b0 + 2) (iI (-1)) := fun s3 hs3 => by
    have mh3 : fX13_here N s3 = some (iI (hr T q)) := m_here N (b := true) ⟨by rw [hs3]; exact c3.1, by rw [hs3]; exact c3.2.1, by rw [hs3]; rfl⟩ w (by omega)
    refine ⟨Ms15 (Ms13 s3 (iI (q : Int))) (upd (upd (pa s2) (b0 + 1) (iI (hr T q))) (b0 + 2) (iI (-1))), ?_, by rw [hs3]; exact qT.rf s2, ⟨by rw [hs3]; exact c3.1, rfl, by rw [hs3]; rfl⟩, rfl⟩
    rw [mh3, xcall_s, ix, xrd_n (by omega) (by omega)]
    unfold xlet
    dsimp only
    rw [ix2, xrd_n (by omega) (by omega), c3.2.1]
    rw [show (0 : Int32) = iI 0 from rfl, i_add, Int.add_zero]
    rfl
  unfold xjoin
  dsimp only
  rw [c3.2.2]
  unfold opS
  cases b with
  | true =>
    obtain ⟨s', f1, f2, f3, f4⟩ := wr (Ms14 s2 1) rfl
    rw [if_neg (show ¬ (true = false ∧ isKdB (hr T q) = true) by simp)]
    refine ⟨s', ?_, q2.tr f2, f3, by rw [f4, e2]⟩
    rw [if_neg (show ¬ iB true = 0 by decide), xnz_of (by decide), if_neg (show ¬ (1 : Int32) = 0 by decide)]
    exact f1
  | false =>
    rw [if_pos (show iB false = 0 by decide), mh, xcall_s, m_isKind N (by omega), xcall_s]
    by_cases hk : isKdB (hr T q) = true
    · have hin := (hr_nn w (p := q)).mp (by have := (isKdB_t hk).2; unfold isCh at this; omega)
      have hl := w.1
      have hq3 : RQ (Ms13 (Ms15 (Ms14 s2 0) (upd (pa s2) (b0 + 1) (iI (hr T q)))) (iI ((q + 1 : Nat) : Int))) T false (q + 1) := ⟨c3.1, rfl, rfl⟩
      have mh4 := m_here N hq3 w (by omega)
      have mh0 : fX13_here N (Ms14 s2 0) = some (iI (hr T q)) := m_here N (b := false) ⟨c3.1, c3.2.1, rfl⟩ w (by omega)
      have hh2 := hr_rng w (q + 1)
      have eq1 : iI (q : Int) + 1 = iI ((q + 1 : Nat) : Int) := by rw [i_lit, i_add]; rfl
      rw [hk, if_neg (show ¬ iB true = 0 by decide), xnz_of (by decide), mh0, xcall_s, ix, xrd_n (by omega) (by omega), if_pos (show false = false ∧ true = true from ⟨rfl, rfl⟩)]
      unfold xlet
      dsimp only
      rw [if_pos (show (0 : Int32) = 0 from rfl), c3.2.1, eq1, if_pos (show (0 : Int32) = 0 from rfl)]
      show ∃ s', (xcall (fX13_here N (Ms13 (Ms15 (Ms14 s2 0) (upd (pa s2) (b0 + 1) (iI (hr T q)))) (iI ((q + 1 : Nat) : Int)))) _) = some s' ∧ _
      rw [mh4, xcall_s]
      by_cases h32 : hr T (q + 1) = 32
      · obtain ⟨s5, d1, d2, d3⟩ := m_digits hN hq3 w (by omega) (m := 2) (by omega)
        rw [if_pos h32]
        refine ⟨Ms15 s5 (upd (pa s5) (b0 + 2) (iI (dgS T 2 (false, q + 1)).1)), ?_, ?_, d3, ?_⟩
        · rw [if_pos (by rw [h32]; rfl)]
          show xcall (fX13_digits N 2 (Ms13 (Ms15 (Ms14 s2 0) (upd (pa s2) (b0 + 1) (iI (hr T q)))) (iI ((q + 1 : Nat) : Int)))) _ = _
          rw [show (2 : Int32) = iI ((2 : Nat) : Int) from rfl, d1, xcall_s]
          have ix3 : iI (b0 : Int) + iI ((2 : Nat) : Int) = iI ((b0 + 2 : Nat) : Int) := by rw [i_add]; rfl
          rw [ix3, xrd_n (by omega) (by omega)]
          rfl
        · have q5 : qT s2 (Ms13 (Ms15 (Ms14 s2 0) (upd (pa s2) (b0 + 1) (iI (hr T q)))) (iI ((q + 1 : Nat) : Int))) := qT.rf s2
          exact (q2.tr q5).tr d2.t
        · show upd (pa s5) _ _ = _
          rw [d2.pa, ← e2]
          rfl
      · rw [if_neg h32]
        refine ⟨Ms15 (Ms13 (Ms14 s2 0) (iI ((q + 1 : Nat) : Int))) (upd (upd (pa s2) (b0 + 1) (iI (hr T q))) (b0 + 2) (iI (-1))), ?_, ?_, ⟨c3.1, rfl, rfl⟩, ?_⟩
        · rw [if_neg (by rw [i_lit, i_eq (by omega) (by omega) (by omega) (by omega)]; exact h32), ix2, xrd_n (by omega) (by omega)]
          rfl
        · exact q2.tr (qT.rf s2)
        · rw [← e2]
          rfl
    · have hk2 : isKdB (hr T q) = false := by simpa using hk
      obtain ⟨s', f1, f2, f3, f4⟩ := wr (Ms14 s2 1) rfl
      rw [hk2, if_neg (show ¬ (false = false ∧ false = true) by simp)]
      refine ⟨s', ?_, q2.tr f2, f3, by rw [f4, e2]⟩
      rw [if_pos (show iB false = 0 by decide), xnz_of (by decide), if_neg (show ¬ (1 : Int32) = 0 by decide)]
      exact f1
end CO
