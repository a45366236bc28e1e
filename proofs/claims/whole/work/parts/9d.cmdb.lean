/-! ===== the reference's commands: buy, bill, back ===== -/
section CBB
variable {N : Nat} {s : MS} {T : List Int} {p : Nat}
theorem m_parsesB (hN : 2000 ≤ N) (h : RQ s T false p) (w : TX T) (hp : p ≤ 70) {b0 : Nat} (hb : b0 + 4 < 240) : ∃ s', fX13_parsesB N (iI (b0 : Int)) s = some s' ∧ qT s s' ∧ (hr T p = 117 → RQ s' T (dgW T [100, 116] (nW T [117, 121] p)).1 (dgW T [100, 116] (nW T [117, 121] p)).2.1 ∧ pa s' = upd (upd (upd (pa s) b0 (iI 117)) (b0 + 1) (iI ((dgW T [100, 116] (nW T [117, 121] p)).2.2.getD 0 0))) (b0 + 2) (iI ((dgW T [100, 116] (nW T [117, 121] p)).2.2.getD 1 0))) ∧ (hr T p = 105 → RQ s' T (dgW T [116] (nW T [105, 108, 108] p)).1 (dgW T [116] (nW T [105, 108, 108] p)).2.1 ∧ pa s' = upd (upd (pa s) b0 (iI 108)) (b0 + 1) (iI ((dgW T [116] (nW T [105, 108, 108] p)).2.2.getD 0 0))) ∧ (hr T p ≠ 117 ∧ hr T p ≠ 105 → RQ s' T (dgW T [116] (nW T [97, 99, 107] p)).1 (dgW T [116] (nW T [97, 99, 107] p)).2.1 ∧ pa s' = upd (pa s) (b0 + 1) (iI ((dgW T [116] (nW T [97, 99, 107] p)).2.2.getD 0 0))) := by
  have hh := hr_rng w p
  have mh := m_here N h w (by omega)
  unfold fX13_parsesB
  rw [mh, xcall_s]
  unfold xjoin
  dsimp only
  by_cases e : hr T p = 117
  · have l0 := lcp_len T [117, 121] p
    have hq : RQ (Ms15 s (upd (pa s) b0 (iI 117))) T false p := h
    obtain ⟨s1, s2, a1, a2, a3, a4⟩ := m_two0 N hq w (by omega) (c := 117) (d := 121) (by omega) (by omega)
    obtain ⟨s3, c1, c2, c3, c4⟩ := m_trade hN a4 w (by show p + lcp T [117, 121] p ≤ 80; simp only [List.length_cons, List.length_nil] at l0; omega) (b0 := b0) (by omega)
    have q0 : qT s (Ms15 s (upd (pa s) b0 (iI 117))) := qT.rf s
    refine ⟨s3, ?_, (q0.tr a3.t).tr c2, fun _ => ⟨c3, ?_⟩, fun hh => absurd (e.symm.trans hh) (by omega), fun hh => absurd e hh.1⟩
    · rw [if_pos (by rw [e]; rfl), xrd_n (by omega) (by omega)]
      show xcall (fX13_needs N 117 (Ms15 s (upd (pa s) b0 (iI 117)))) _ = _
      rw [show (117 : Int32) = iI 117 from rfl, a1, xcall_s, show (121 : Int32) = iI 121 from rfl, a2, xcall_s, c1, xcall_s]
    · rw [c4, a3.pa]
      rfl
  · rw [if_neg (by rw [i_lit, i_eq (by omega) (by omega) (by omega) (by omega)]; exact e), xcall_s]
    by_cases e2 : hr T p = 105
    · have l0 := lcp_len T [105, 108, 108] p
      have hq : RQ (Ms15 s (upd (pa s) b0 (iI 108))) T false p := h
      obtain ⟨s1, a1, a2, a3⟩ := m_three0 N hq w (by omega) (c := 105) (d := 108) (e := 108) (by omega) (by omega) (by omega)
      obtain ⟨s3, c1, c2, c3, c4⟩ := m_dst hN a3 w (by show p + lcp T [105, 108, 108] p ≤ 90; simp only [List.length_cons, List.length_nil] at l0; omega) (m := 3) (by omega) (b0 := b0) (o := 1) (by omega) (fun z => some z)
      have q0 : qT s (Ms15 s (upd (pa s) b0 (iI 108))) := qT.rf s
      refine ⟨s3, ?_, (q0.tr a2.t).tr c2, fun hh => absurd hh e, fun _ => ⟨c3, ?_⟩, fun hh => absurd e2 hh.2⟩
      · rw [if_pos (by rw [e2]; rfl), xrd_n (by omega) (by omega)]
        show xcall (fX13_needsThree N 105 108 108 (Ms15 s (upd (pa s) b0 (iI 108)))) _ = _
        rw [show (105 : Int32) = iI 105 from rfl, show (108 : Int32) = iI 108 from rfl, a1, xcall_s]
        exact c1
      · rw [c4, a2.pa]
        rfl
    · have l0 := lcp_len T [97, 99, 107] p
      obtain ⟨s1, a1, a2, a3⟩ := m_three0 N h w (by omega) (c := 97) (d := 99) (e := 107) (by omega) (by omega) (by omega)
      obtain ⟨s3, c1, c2, c3, c4⟩ := m_dst hN a3 w (by show p + lcp T [97, 99, 107] p ≤ 90; simp only [List.length_cons, List.length_nil] at l0; omega) (m := 3) (by omega) (b0 := b0) (o := 1) (by omega) (fun z => some z)
      refine ⟨s3, ?_, a2.t.tr c2, fun hh => absurd hh e, fun hh => absurd hh e2, fun _ => ⟨c3, ?_⟩⟩
      · rw [if_neg (by rw [i_lit, i_eq (by omega) (by omega) (by omega) (by omega)]; exact e2), show (97 : Int32) = iI 97 from rfl, show (99 : Int32) = iI 99 from rfl, show (107 : Int32) = iI 107 from rfl, a1, xcall_s]
        exact c1
      · rw [c4, a2.pa]
        rfl
end CBB
