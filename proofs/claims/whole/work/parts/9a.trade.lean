/-! ===== the reference's commands ===== -/
section TR
variable {N : Nat} {s : MS} {T : List Int} {b : Bool} {p : Nat}
theorem m_trade (hN : 2000 ≤ N) (h : RQ s T b p) (w : TX T) (hp : p ≤ 80) {b0 : Nat} (hb : b0 + 3 < 240) : ∃ s', fX13_parsesTrade N (iI (b0 : Int)) s = some s' ∧ qT s s' ∧ RQ s' T (dgW T [100, 116] (b, p)).1 (dgW T [100, 116] (b, p)).2.1 ∧ pa s' = upd (upd (pa s) (b0 + 1) (iI ((dgW T [100, 116] (b, p)).2.2.getD 0 0))) (b0 + 2) (iI ((dgW T [100, 116] (b, p)).2.2.getD 1 0)) := by
  have l1 := dgS_le T (m := 2) (b, p)
  obtain ⟨s1, a1, a2, a3, a4⟩ := m_dst hN h w (by omega) (m := 2) (by omega) (b0 := b0) (o := 1) (by omega) (fun z => xcall (fX13_digits N 3 z) fun q4 => xrd 240 (iI (b0 : Int) + 2) fun k5 => xlet (upd (pa q4.2) k5 q4.1) fun g6 => some ((Ms15 q4.2 g6)))
  obtain ⟨s2, c1, c2, c3, c4⟩ := m_dst hN a3 w (by simp only at l1; omega) (m := 3) (by omega) (b0 := b0) (o := 2) (by omega) (fun z => some z)
  refine ⟨s2, ?_, a2.tr c2, c3, ?_⟩
  · unfold fX13_parsesTrade
    refine Eq.trans a1 ?_
    exact c1
  · rw [c4, a4]
    rfl
end TR
