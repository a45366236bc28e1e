/-! ===== the reference's commands: post, pay ===== -/
section CP
variable {N : Nat} {s : MS} {T : List Int} {p : Nat}
theorem m_parsesP (hN : 2000 ≤ N) (h : RQ s T false p) (w : TX T) (hp : p ≤ 70) {b0 : Nat} (hb : b0 + 4 < 240) : ∃ s', fX13_parsesP N (iI (b0 : Int)) s = some s' ∧ qT s s' ∧ (hr T p = 97 → RQ s' T (dgW T [116] (nW T [97, 121] p)).1 (dgW T [116] (nW T [97, 121] p)).2.1 ∧ pa s' = upd (upd (pa s) b0 (iI 121)) (b0 + 1) (iI ((dgW T [116] (nW T [97, 121] p)).2.2.getD 0 0))) ∧ (hr T p ≠ 97 → RQ s' T (dgW T [100, 100, 116] (nW T [111, 115, 116] p)).1 (dgW T [100, 100, 116] (nW T [111, 115, 116] p)).2.1 ∧ pa s' = upd (upd (upd (pa s) (b0 + 1) (iI ((dgW T [100, 100, 116] (nW T [111, 115, 116] p)).2.2.getD 0 0))) (b0 + 2) (iI ((dgW T [100, 100, 116] (nW T [111, 115, 116] p)).2.2.getD 1 0))) (b0 + 3) (iI ((dgW T [100, 100, 116] (nW T [111, 115, 116] p)).2.2.getD 2 0))) := by
  have hh := hr_rng w p
  have mh := m_here N h w (by omega)
  unfold fX13_parsesP
  rw [mh, xcall_s]
  unfold xjoin
  dsimp only
  by_cases e : hr T p = 97
  · have l0 := lcp_len T [97, 121] p
    have hq : RQ (Ms15 s (upd (pa s) b0 (iI 121))) T false p := h
    obtain ⟨s1, s2, a1, a2, a3, a4⟩ := m_two0 N hq w (by omega) (c := 97) (d := 121) (by omega) (by omega)
    obtain ⟨s3, c1, c2, c3, c4⟩ := m_dst hN a4 w (by show p + lcp T [97, 121] p ≤ 90; simp only [List.length_cons, List.length_nil] at l0; omega) (m := 3) (by omega) (b0 := b0) (o := 1) (by omega) (fun z => some z)
    refine ⟨s3, ?_, ?_, fun _ => ⟨c3, ?_⟩, fun hh => absurd e hh⟩
    · rw [if_pos (by rw [e]; rfl), xrd_n (by omega) (by omega)]
      show xcall (fX13_needs N 97 (Ms15 s (upd (pa s) b0 (iI 121)))) _ = _
      rw [show (97 : Int32) = iI 97 from rfl, a1, xcall_s, show (121 : Int32) = iI 121 from rfl, a2, xcall_s]
      exact c1
    · have q0 : qT s (Ms15 s (upd (pa s) b0 (iI 121))) := qT.rf s
      exact (q0.tr a3.t).tr c2
    · rw [c4, a3.pa]
      rfl
  · have l0 := lcp_len T [111, 115, 116] p
    obtain ⟨s1, a1, a2, a3⟩ := m_three0 N h w (by omega) (c := 111) (d := 115) (e := 116) (by omega) (by omega) (by omega)
    have hz : (nW T [111, 115, 116] p).2 ≤ p + 3 := by show p + lcp T [111, 115, 116] p ≤ p + 3; simp only [List.length_cons, List.length_nil] at l0; omega
    have l1 := dgS_le T (m := 2) (nW T [111, 115, 116] p)
    have l2 := dgS_le T (m := 2) (dgS T 2 (nW T [111, 115, 116] p)).2
    obtain ⟨s2, c1, c2, c3, c4⟩ := m_dst hN a3 w (by omega) (m := 2) (by omega) (b0 := b0) (o := 1) (by omega) (fun z => xcall (fX13_digits N 2 z) fun q8 => xrd 240 (iI (b0 : Int) + 2) fun k9 => xlet (upd (pa q8.2) k9 q8.1) fun g10 => xcall (fX13_digits N 3 ((Ms15 q8.2 g10))) fun q11 => xrd 240 (iI (b0 : Int) + 3) fun k12 => xlet (upd (pa q11.2) k12 q11.1) fun g13 => some ((Ms15 q11.2 g13)))
    obtain ⟨s3, d1, d2, d3, d4⟩ := m_dst hN c3 w (by show (dgS T 2 (nW T [111, 115, 116] p)).2.2 ≤ 90; omega) (m := 2) (by omega) (b0 := b0) (o := 2) (by omega) (fun z => xcall (fX13_digits N 3 z) fun q11 => xrd 240 (iI (b0 : Int) + 3) fun k12 => xlet (upd (pa q11.2) k12 q11.1) fun g13 => some ((Ms15 q11.2 g13)))
    obtain ⟨s4, f1, f2, f3, f4⟩ := m_dst hN d3 w (by show (dgS T 2 (dgS T 2 (nW T [111, 115, 116] p)).2).2.2 ≤ 90; omega) (m := 3) (by omega) (b0 := b0) (o := 3) (by omega) (fun z => some z)
    refine ⟨s4, ?_, ((a2.t.tr c2).tr d2).tr f2, fun hh => absurd hh e, fun _ => ⟨f3, ?_⟩⟩
    · rw [if_neg (by rw [i_lit, i_eq (by omega) (by omega) (by omega) (by omega)]; exact e), show (111 : Int32) = iI 111 from rfl, show (115 : Int32) = iI 115 from rfl, show (116 : Int32) = iI 116 from rfl, a1, xcall_s]
      refine Eq.trans c1 ?_
      refine Eq.trans d1 ?_
      exact f1
    · rw [f4, d4, c4, a2.pa]
      rfl
end CP
