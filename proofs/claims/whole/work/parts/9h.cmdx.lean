/-! ===== the reference's commands: one ===== -/
theorem pc_1 {f : Nat → Int32} {b0 j : Nat} {vs : List Int} (h7 : j ≠ 7) (ha : arS j = 1) (hl : vs.length = 1) (h0 : f b0 = iI (ltS j)) : PC (upd f (b0 + 1) (iI (vs.getD 0 0))) b0 (j, vs) := by
  refine pc_mk h7 (by omega) (by rw [upd_ne (by omega)]; exact h0) fun i hi => ?_
  obtain rfl : i = 0 := by omega
  exact upd_at (by omega)
theorem pc_2 {f : Nat → Int32} {b0 j : Nat} {vs : List Int} (h7 : j ≠ 7) (ha : arS j = 2) (hl : vs.length = 2) (h0 : f b0 = iI (ltS j)) : PC (upd (upd f (b0 + 1) (iI (vs.getD 0 0))) (b0 + 2) (iI (vs.getD 1 0))) b0 (j, vs) := by
  refine pc_mk h7 (by omega) (by rw [upd_ne (by omega), upd_ne (by omega)]; exact h0) fun i hi => ?_
  by_cases hi0 : i = 0
  · subst hi0
    rw [upd_ne (by omega)]
    exact upd_at (by omega)
  · obtain rfl : i = 1 := by omega
    exact upd_at (by omega)
theorem pc_3 {f : Nat → Int32} {b0 j : Nat} {vs : List Int} (h7 : j ≠ 7) (ha : arS j = 3) (hl : vs.length = 3) (h0 : f b0 = iI (ltS j)) : PC (upd (upd (upd f (b0 + 1) (iI (vs.getD 0 0))) (b0 + 2) (iI (vs.getD 1 0))) (b0 + 3) (iI (vs.getD 2 0))) b0 (j, vs) := by
  refine pc_mk h7 (by omega) (by rw [upd_ne (by omega), upd_ne (by omega), upd_ne (by omega)]; exact h0) fun i hi => ?_
  by_cases hi0 : i = 0
  · subst hi0
    rw [upd_ne (by omega), upd_ne (by omega)]
    exact upd_at (by omega)
  · by_cases hi1 : i = 1
    · subst hi1
      rw [upd_ne (by omega)]
      exact upd_at (by omega)
    · obtain rfl : i = 2 := by omega
      exact upd_at (by omega)
section CA2
variable {N : Nat} {s : MS} {T : List Int} {p : Nat}
theorem m_parB (hN : 2000 ≤ N) {s1 sN : MS} (h : RQ s1 T false (p + 1)) (w : TX T) (hp : p ≤ 60) {b0 : Nat} (hb : b0 + 4 < 240) (hs : qT s s1) (h0 : pa s1 b0 = iI (hr T p)) (hk : ∀ k, k < b0 → pa s1 k = pa s k) (hsN : cmdS T p = (false, none, p) → PCm s sN T p b0) : ∃ s', parB N (iI (b0 : Int)) (iI (hr T p)) s1 sN = some s' ∧ PCm s s' T p b0 := by
  have hh := hr_rng w p
  have ne : ∀ x : Nat, x < 65536 → hr T p ≠ x → ¬ iI (hr T p) = iI (x : Int) := fun x hx e => by
    rw [i_eq (by omega) (by omega) (by omega) (by omega)]; exact e
  unfold parB
  by_cases e98 : hr T p = 98
  · obtain ⟨s', a1, a2, a3, a4, a5⟩ := m_parsesB hN h w (by omega) hb
    have hw := wd_b e98
    refine ⟨s', by rw [if_pos (by rw [e98]; rfl), a1, xcall_s], ?_⟩
    by_cases c : hr T (p + 1) = 117
    · rw [if_pos c] at hw
      obtain ⟨b1, b2⟩ := a3 c
      exact pcm_dg (L := [117, 121]) (F := [100, 116]) (j := 3) hw rfl (by decide) (hs.tr a2) b1 (by rw [b2]; exact pc_2 (by decide) rfl rfl upd_eq) (fun k hk9 => by rw [b2, upd_ne (by omega), upd_ne (by omega), upd_ne (by omega), hk k hk9])
    · rw [if_neg c] at hw
      by_cases c2 : hr T (p + 1) = 105
      · rw [if_pos c2] at hw
        obtain ⟨b1, b2⟩ := a4 c2
        exact pcm_dg (L := [105, 108, 108]) (F := [116]) (j := 5) hw rfl (by decide) (hs.tr a2) b1 (by rw [b2]; exact pc_1 (by decide) rfl rfl upd_eq) (fun k hk9 => by rw [b2, upd_ne (by omega), upd_ne (by omega), hk k hk9])
      · rw [if_neg c2] at hw
        obtain ⟨b1, b2⟩ := a5 ⟨c, c2⟩
        exact pcm_dg (L := [97, 99, 107]) (F := [116]) (j := 1) hw rfl (by decide) (hs.tr a2) b1 (by rw [b2]; exact pc_1 (by decide) rfl rfl (by rw [h0, e98]; rfl)) (fun k hk9 => by rw [b2, upd_ne (by omega), hk k hk9])
  · rw [if_neg (show ¬ iI (hr T p) = (98 : Int32) from ne 98 (by decide) e98)]
    by_cases e99 : hr T p = 99
    · obtain ⟨t1, s', a1, a2, a3, a4⟩ := m_six0 N h w (by omega)
      refine ⟨s', by rw [if_pos (by rw [e99]; rfl), a1, xcall_s, a2, xcall_s], ?_⟩
      refine pcm_dg (L := [117, 114, 116, 97, 105, 110]) (F := []) (j := 8) (wd_c e99) rfl (by decide) (hs.tr a3.t) a4 (pc_mk (by decide) rfl (by rw [a3.pa, h0, e99]; rfl) (fun i hi => absurd hi (by show ¬ i < 0; omega))) (fun k hk9 => by rw [a3.pa, hk k hk9])
    · rw [if_neg (show ¬ iI (hr T p) = (99 : Int32) from ne 99 (by decide) e99)]
      by_cases e111 : hr T p = 111
      · obtain ⟨s', a1, a2⟩ := m_opn hN h w hp hb e111 hs (by rw [h0, e111]) hk
        exact ⟨s', by rw [if_pos (by rw [e111]; rfl), a1, xcall_s], a2⟩
      · rw [if_neg (show ¬ iI (hr T p) = (111 : Int32) from ne 111 (by decide) e111)]
        by_cases e112 : hr T p = 112
        · obtain ⟨s', a1, a2, a3, a4⟩ := m_parsesP hN h w (by omega) hb
          have hw := wd_p e112
          refine ⟨s', by rw [if_pos (by rw [e112]; rfl), a1, xcall_s], ?_⟩
          by_cases c : hr T (p + 1) = 97
          · rw [if_pos c] at hw
            obtain ⟨b1, b2⟩ := a3 c
            exact pcm_dg (L := [97, 121]) (F := [116]) (j := 6) hw rfl (by decide) (hs.tr a2) b1 (by rw [b2]; exact pc_1 (by decide) rfl rfl upd_eq) (fun k hk9 => by rw [b2, upd_ne (by omega), upd_ne (by omega), hk k hk9])
          · rw [if_neg c] at hw
            obtain ⟨b1, b2⟩ := a4 c
            exact pcm_dg (L := [111, 115, 116]) (F := [100, 100, 116]) (j := 0) hw rfl (by decide) (hs.tr a2) b1 (by rw [b2]; exact pc_3 (by decide) rfl rfl (by rw [h0, e112]; rfl)) (fun k hk9 => by rw [b2, upd_ne (by omega), upd_ne (by omega), upd_ne (by omega), hk k hk9])
        · rw [if_neg (show ¬ iI (hr T p) = (112 : Int32) from ne 112 (by decide) e112)]
          by_cases e115 : hr T p = 115
          · obtain ⟨s2, a1, a2, a3⟩ := m_three0 N h w (by omega) (c := 101) (d := 108) (e := 108) (by omega) (by omega) (by omega)
            have l0 := lcp_len T [101, 108, 108] (p + 1)
            have hz : (nW T [101, 108, 108] (p + 1)).2 ≤ p + 1 + 3 := by show p + 1 + lcp T [101, 108, 108] (p + 1) ≤ p + 1 + 3; simp only [List.length_cons, List.length_nil] at l0; omega
            obtain ⟨s', b1, b2, b3, b4⟩ := m_trade hN a3 w (by omega) (b0 := b0) (by omega)
            refine ⟨s', ?_, ?_⟩
            · rw [if_pos (by rw [e115]; rfl), show (101 : Int32) = iI 101 from rfl, show (108 : Int32) = iI 108 from rfl, a1, xcall_s, b1, xcall_s]
            · exact pcm_dg (L := [101, 108, 108]) (F := [100, 116]) (j := 4) (wd_s e115) rfl (by decide) ((hs.tr a2.t).tr b2) b3 (by rw [b4]; exact pc_2 (by decide) rfl rfl (by rw [a2.pa, h0, e115]; rfl)) (fun k hk9 => by rw [b4, upd_ne (by omega), upd_ne (by omega), a2.pa, hk k hk9])
          · rw [if_neg (show ¬ iI (hr T p) = (115 : Int32) from ne 115 (by decide) e115)]
            by_cases e119 : hr T p = 119
            · obtain ⟨s', a1, a2⟩ := m_wait hN h w hp hb e119 hs (by rw [h0, e119]) hk
              exact ⟨s', by rw [if_pos (by rw [e119]; rfl), a1], a2⟩
            · rw [if_neg (show ¬ iI (hr T p) = (119 : Int32) from ne 119 (by decide) e119)]
              refine ⟨sN, rfl, hsN ?_⟩
              have hw := wd_no (T := T) (p := p) ⟨e112, e98, e111, e115, e119, e99⟩
              unfold cmdS
              rw [hw]
theorem m_parsesCommand (hN : 2000 ≤ N) (h : RQ s T false p) (w : TX T) (hp : p ≤ 60) {b0 : Nat} (hb : b0 + 4 < 240) : ∃ s', fX13_parsesCommand N (iI (b0 : Int)) s = some s' ∧ PCm s s' T p b0 := by
  have mh := m_here N h w (by omega)
  have e1 : s.2.2.2.2.2.2.2.2.2.2.2.2.2.1 + 1 = iI ((p + 1 : Nat) : Int) := by rw [h.2.1, i_lit, i_add]; rfl
  have e2 : iI ((p + 1 : Nat) : Int) - 1 = iI (p : Int) := by rw [i_lit, i_sub]; congr 1; omega
  rw [parses_K, mh, xcall_s, xrd_n (by omega) (by omega), e1, e2]
  refine m_parB hN (s := s) (s1 := pcS s (iI ((p + 1 : Nat) : Int)) b0 (iI (hr T p))) ⟨h.1, rfl, h.2.2⟩ w hp hb (qT.rf s) upd_eq (fun k hk9 => upd_ne (by omega)) fun hc => ?_
  refine ⟨qT.rf s, ?_, ?_, fun k hk9 => upd_ne (by omega)⟩
  · rw [hc]
    exact ⟨h.1, rfl, rfl⟩
  · rw [hc]
    exact fun hh => absurd hh (by simp)
end CA2
