/-! ===== the reference's commands: open ===== -/
def opS (T : List Int) (y : Bool × Nat) : Bool × Nat × Int × Int := if y.1 = false ∧ isKdB (hr T y.2) = true then (if hr T (y.2 + 1) = 32 then ((dgS T 2 (false, y.2 + 1)).2.1, (dgS T 2 (false, y.2 + 1)).2.2, hr T y.2, (dgS T 2 (false, y.2 + 1)).1) else (false, y.2 + 1, hr T y.2, -1)) else (true, y.2, hr T y.2, -1)
def opA (N : Nat) (a1 t : Int32) (s : MS) : Option MS := if t = 0 then xcall (fX13_here N s) fun q15 => if q15 = 32 then xcall (fX13_digits N 2 s) fun q17 => xrd 240 (a1 + 2) fun k11 => some (Ms15 q17.2 (upd (pa q17.2) k11 q17.1)) else xrd 240 (a1 + 2) fun k11 => some (Ms15 s (upd (pa s) k11 (-1))) else xrd 240 (a1 + 2) fun k11 => some (Ms15 s (upd (pa s) k11 (-1)))
def opB (N : Nat) (a1 t : Int32) (s : MS) : Option MS := xnz (xbit t) <| xcall (fX13_here N (Ms14 s t)) fun q5 => xrd 240 (a1 + 1) fun k6 => if t = 0 then opA N a1 t (Ms13 (Ms15 (Ms14 s t) (upd (pa s) k6 q5)) (s.2.2.2.2.2.2.2.2.2.2.2.2.2.1 + 1)) else opA N a1 t (Ms13 (Ms15 (Ms14 s t) (upd (pa s) k6 q5)) (s.2.2.2.2.2.2.2.2.2.2.2.2.2.1 + 0))
theorem opn_K (N : Nat) (a1 : Int32) (s0 : MS) : fX13_parsesOpen N a1 s0 = xcall (fX13_needsThree N 112 101 110 s0) fun q1 => xcall (fX13_needs N 32 q1) fun q2 => if q2.2.2.2.2.2.2.2.2.2.2.2.2.2.2.1 = 0 then xcall (fX13_here N q2) fun q21 => xcall (fX13_isKind N q21) fun q22 => if q22 = 0 then opB N a1 1 q2 else opB N a1 0 q2 else opB N a1 1 q2 := rfl
section CO
variable {N : Nat} {s : MS} {T : List Int} {p : Nat}
theorem m_opB1 (N : Nat) {b : Bool} (h : RQ s T b p) (w : TX T) (hp : p ≤ 80) {b0 : Nat} (hb : b0 + 4 < 240) : ∃ s', opB N (iI (b0 : Int)) 1 s = some s' ∧ qT s s' ∧ RQ s' T true p ∧ pa s' = upd (upd (pa s) (b0 + 1) (iI (hr T p))) (b0 + 2) (iI (-1)) := by
  have mh : fX13_here N (Ms14 s 1) = some (iI (hr T p)) := m_here N (b := true) ⟨h.1, h.2.1, rfl⟩ w (by omega)
  have ix : iI (b0 : Int) + 1 = iI ((b0 + 1 : Nat) : Int) := by rw [i_lit, i_add]; rfl
  have ix2 : iI (b0 : Int) + 2 = iI ((b0 + 2 : Nat) : Int) := by rw [i_lit, i_add]; rfl
  have e0 : s.2.2.2.2.2.2.2.2.2.2.2.2.2.1 + 0 = iI (p : Int) := by rw [h.2.1, show (0 : Int32) = iI 0 from rfl, i_add, Int.add_zero]
  refine ⟨Ms15 (Ms13 (Ms15 (Ms14 s 1) (upd (pa s) (b0 + 1) (iI (hr T p)))) (iI (p : Int))) (upd (upd (pa s) (b0 + 1) (iI (hr T p))) (b0 + 2) (iI (-1))), ?_, qT.rf s, ⟨h.1, rfl, rfl⟩, rfl⟩
  unfold opB
  rw [xnz_of (by decide), mh, xcall_s, ix, xrd_n (by omega) (by omega), if_neg (by decide), e0]
  unfold opA
  rw [if_neg (by decide), ix2, xrd_n (by omega) (by omega)]
  rfl
theorem m_opA0 (hN : 2000 ≤ N) (h : RQ s T false p) (w : TX T) (hp : p ≤ 80) {b0 : Nat} (hb : b0 + 4 < 240) : ∃ s', opA N (iI (b0 : Int)) 0 s = some s' ∧ qT s s' ∧ (hr T p = 32 → RQ s' T (dgS T 2 (false, p)).2.1 (dgS T 2 (false, p)).2.2 ∧ pa s' = upd (pa s) (b0 + 2) (iI (dgS T 2 (false, p)).1)) ∧ (hr T p ≠ 32 → RQ s' T false p ∧ pa s' = upd (pa s) (b0 + 2) (iI (-1))) := by
  have mh := m_here N h w (by omega)
  have hh := hr_rng w p
  have ix2 : iI (b0 : Int) + 2 = iI ((b0 + 2 : Nat) : Int) := by rw [i_lit, i_add]; rfl
  unfold opA
  rw [if_pos rfl, mh, xcall_s]
  by_cases h32 : hr T p = 32
  · obtain ⟨s5, d1, d2, d3⟩ := m_digits hN h w (by omega) (m := 2) (by omega)
    refine ⟨Ms15 s5 (upd (pa s) (b0 + 2) (iI (dgS T 2 (false, p)).1)), ?_, d2.t, fun _ => ⟨d3, rfl⟩, fun hh => absurd h32 hh⟩
    rw [if_pos (by rw [h32]; rfl), show (2 : Int32) = iI ((2 : Nat) : Int) from rfl, d1, xcall_s, show iI (b0 : Int) + iI ((2 : Nat) : Int) = iI ((b0 + 2 : Nat) : Int) from ix2, xrd_n (by omega) (by omega), d2.pa]
  · refine ⟨Ms15 s (upd (pa s) (b0 + 2) (iI (-1))), ?_, qT.rf s, fun hh => absurd hh h32, fun _ => ⟨h, rfl⟩⟩
    rw [if_neg (show ¬ iI (hr T p) = (32 : Int32) by rw [i_lit, i_eq (by omega) (by omega) (by omega) (by omega)]; exact h32), ix2, xrd_n (by omega) (by omega)]
    rfl
theorem m_opB0 (hN : 2000 ≤ N) (h : RQ s T false p) (w : TX T) (hp : p ≤ 78) {b0 : Nat} (hb : b0 + 4 < 240) : ∃ s', opB N (iI (b0 : Int)) 0 s = some s' ∧ qT s s' ∧ (hr T (p + 1) = 32 → RQ s' T (dgS T 2 (false, p + 1)).2.1 (dgS T 2 (false, p + 1)).2.2 ∧ pa s' = upd (upd (pa s) (b0 + 1) (iI (hr T p))) (b0 + 2) (iI (dgS T 2 (false, p + 1)).1)) ∧ (hr T (p + 1) ≠ 32 → RQ s' T false (p + 1) ∧ pa s' = upd (upd (pa s) (b0 + 1) (iI (hr T p))) (b0 + 2) (iI (-1))) := by
  have mh : fX13_here N (Ms14 s 0) = some (iI (hr T p)) := m_here N (b := false) ⟨h.1, h.2.1, rfl⟩ w (by omega)
  have ix : iI (b0 : Int) + 1 = iI ((b0 + 1 : Nat) : Int) := by rw [i_lit, i_add]; rfl
  have e1 : s.2.2.2.2.2.2.2.2.2.2.2.2.2.1 + 1 = iI ((p + 1 : Nat) : Int) := by rw [h.2.1, i_lit, i_add]; rfl
  have hq : RQ (Ms13 (Ms15 (Ms14 s 0) (upd (pa s) (b0 + 1) (iI (hr T p)))) (iI ((p + 1 : Nat) : Int))) T false (p + 1) := ⟨h.1, rfl, rfl⟩
  obtain ⟨s', a1, a2, a3, a4⟩ := m_opA0 hN hq w (by omega) hb
  refine ⟨s', ?_, (show qT s (Ms13 (Ms15 (Ms14 s 0) (upd (pa s) (b0 + 1) (iI (hr T p)))) (iI ((p + 1 : Nat) : Int))) from qT.rf s).tr a2, a3, a4⟩
  unfold opB
  rw [xnz_of (by decide), mh, xcall_s, ix, xrd_n (by omega) (by omega), if_pos rfl, e1]
  exact a1
theorem m_parsesOpen (hN : 2000 ≤ N) (h : RQ s T false p) (w : TX T) (hp : p ≤ 70) {b0 : Nat} (hb : b0 + 4 < 240) : ∃ s', fX13_parsesOpen N (iI (b0 : Int)) s = some s' ∧ qT s s' ∧ RQ s' T (opS T (ndS T 32 (nW T [112, 101, 110] p))).1 (opS T (ndS T 32 (nW T [112, 101, 110] p))).2.1 ∧ pa s' = upd (upd (pa s) (b0 + 1) (iI (opS T (ndS T 32 (nW T [112, 101, 110] p))).2.2.1)) (b0 + 2) (iI (opS T (ndS T 32 (nW T [112, 101, 110] p))).2.2.2) := by
  have l0 := lcp_len T [112, 101, 110] p
  have hz : (nW T [112, 101, 110] p).2 ≤ p + 3 := by show p + lcp T [112, 101, 110] p ≤ p + 3; simp only [List.length_cons, List.length_nil] at l0; omega
  have l1 := ndS_le T 32 (nW T [112, 101, 110] p)
  obtain ⟨s1, a1, a2, a3⟩ := m_three0 N h w (by omega) (c := 112) (d := 101) (e := 110) (by omega) (by omega) (by omega)
  obtain ⟨s2, c1, c2, c3⟩ := m_nd N a3 w (by omega) (c := 32) (by omega)
  have c3 : RQ s2 T (ndS T 32 (nW T [112, 101, 110] p)).1 (ndS T 32 (nW T [112, 101, 110] p)).2 := c3
  have q2 := (a2.tr c2).t
  have e2 : pa s2 = pa s := by rw [c2.pa, a2.pa]
  rw [opn_K, show (112 : Int32) = iI 112 from rfl, show (101 : Int32) = iI 101 from rfl, show (110 : Int32) = iI 110 from rfl, a1, xcall_s, show (32 : Int32) = iI 32 from rfl, c1, xcall_s]
  clear a1 c1 a3 a2 c2
  generalize ndS T 32 (nW T [112, 101, 110] p) = y at *
  obtain ⟨b, q⟩ := y
  have hq70 : q ≤ 74 := by
    by_cases h9 : q ≤ 74
    · exact h9
    · exfalso; simp only at l1; omega
  have c3 : RQ s2 T b q := c3
  have hh := hr_rng w q
  have mh := m_here N c3 w (by omega)
  rw [c3.2.2, ← e2]
  unfold opS
  cases b with
  | true =>
    obtain ⟨s', f1, f2, f3, f4⟩ := m_opB1 N c3 w (by omega) hb
    rw [if_neg (show ¬ (true = false ∧ isKdB (hr T q) = true) by simp), if_neg (show ¬ iB true = 0 by decide)]
    exact ⟨s', f1, q2.tr f2, f3, f4⟩
  | false =>
    rw [if_pos (show iB false = 0 by decide), mh, xcall_s, m_isKind N (by omega), xcall_s]
    by_cases hk : isKdB (hr T q) = true
    · obtain ⟨s', f1, f2, f3, f4⟩ := m_opB0 hN c3 w (by omega) hb
      rw [hk, if_neg (show ¬ iB true = 0 by decide), if_pos (show false = false ∧ true = true from ⟨rfl, rfl⟩)]
      by_cases h32 : hr T (q + 1) = 32
      · obtain ⟨g1, g2⟩ := f3 h32
        rw [if_pos h32]
        exact ⟨s', f1, q2.tr f2, g1, g2⟩
      · obtain ⟨g1, g2⟩ := f4 h32
        rw [if_neg h32]
        exact ⟨s', f1, q2.tr f2, g1, g2⟩
    · have hk2 : isKdB (hr T q) = false := by simpa using hk
      obtain ⟨s', f1, f2, f3, f4⟩ := m_opB1 N c3 w (by omega) hb
      rw [hk2, if_neg (show ¬ (false = false ∧ false = true) by simp), if_pos (show iB false = 0 by decide)]
      exact ⟨s', f1, q2.tr f2, f3, f4⟩
end CO
