/-! ===== the reference's commands: sell, buy, bill, back ===== -/
def nW (T : List Int) (L : List Int) (p : Nat) : Bool × Nat := (decide (lcp T L p ≠ L.length), p + lcp T L p)
section CB
variable {N : Nat} {s : MS} {T : List Int} {p : Nat}
theorem m_three0 (N : Nat) (h : RQ s T false p) (w : TX T) (hp : p ≤ 90) {c d e : Int} (hc : 0 ≤ c ∧ c < 65536) (hd : 0 ≤ d ∧ d < 65536) (he : 0 ≤ e ∧ e < 65536) : ∃ s', fX13_needsThree N (iI c) (iI d) (iI e) s = some s' ∧ qS s s' ∧ RQ s' T (nW T [c, d, e] p).1 (nW T [c, d, e] p).2 := by
  obtain ⟨s', e1, e2, e3⟩ := m_three N h w hp hc hd he
  refine ⟨s', e1, e2, ?_⟩
  have q : ndS T e (ndS T d (ndS T c (false, p))) = nW T [c, d, e] p := ndW_lcp T [c, d, e] p
  rw [q] at e3
  exact e3
theorem m_two0 (N : Nat) (h : RQ s T false p) (w : TX T) (hp : p ≤ 90) {c d : Int} (hc : 0 ≤ c ∧ c < 65536) (hd : 0 ≤ d ∧ d < 65536) : ∃ s1 s', fX13_needs N (iI c) s = some s1 ∧ fX13_needs N (iI d) s1 = some s' ∧ qS s s' ∧ RQ s' T (nW T [c, d] p).1 (nW T [c, d] p).2 := by
  have l1 := ndS_le T c (false, p)
  obtain ⟨s1, a1, a2, a3⟩ := m_nd N h w (by omega) hc
  obtain ⟨s2, b1, b2, b3⟩ := m_nd N a3 w (by simp only at l1; omega) hd
  refine ⟨s1, s2, a1, b1, a2.tr b2, ?_⟩
  have q : ndS T d (ndS T c (false, p)) = nW T [c, d] p := ndW_lcp T [c, d] p
  have e3 : RQ s2 T (ndS T d (ndS T c (false, p))).1 (ndS T d (ndS T c (false, p))).2 := b3
  rw [q] at e3
  exact e3
end CB
