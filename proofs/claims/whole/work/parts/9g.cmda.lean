/-! ===== the reference's commands: by the first letter ===== -/
section CA
variable {N : Nat} {s : MS} {T : List Int} {p : Nat}
def pcB (N : Nat) (a1 : Int32) (s1 : MS) : Option MS := xcall (fX13_needsThree N 97 105 116 s1) fun q14 => if q14.2.2.2.2.2.2.2.2.2.2.2.2.2.2.1 = 0 then xcall (fX13_here N q14) fun q20 => if q20 = 32 then xcall (fX13_digits N 2 q14) fun q22 => xrd 240 (a1 + 1) fun k16 => some (Ms15 q22.2 (upd (pa q22.2) k16 q22.1)) else xrd 240 (a1 + 1) fun k16 => some (Ms15 q14 (upd (pa q14) k16 1)) else xrd 240 (a1 + 1) fun k16 => some (Ms15 q14 (upd (pa q14) k16 1))
def parB (N : Nat) (a1 q1 : Int32) (s1 sN : MS) : Option MS := if q1 = 98 then xcall (fX13_parsesB N a1 s1) fun q7 => some q7 else if q1 = 99 then xcall (fX13_needsThree N 117 114 116 s1) fun q8 => xcall (fX13_needsThree N 97 105 110 q8) fun q9 => some q9 else if q1 = 111 then xcall (fX13_parsesOpen N a1 s1) fun q10 => some q10 else if q1 = 112 then xcall (fX13_parsesP N a1 s1) fun q11 => some q11 else if q1 = 115 then xcall (fX13_needsThree N 101 108 108 s1) fun q12 => xcall (fX13_parsesTrade N a1 q12) fun q13 => some q13 else if q1 = 119 then pcB N a1 s1 else some sN
def pcS (s0 : MS) (x : Int32) (k : Nat) (v : Int32) : MS := Ms15 (Ms13 s0 x) (upd (pa s0) k v)
def pcN (s0 : MS) (x : Int32) (k : Nat) (v : Int32) : MS := Ms15 (Ms14 (Ms13 s0 x) 1) (upd (pa s0) k v)
theorem parses_K (N : Nat) (a1 : Int32) (s0 : MS) : fX13_parsesCommand N a1 s0 = xcall (fX13_here N s0) fun q1 => xrd 240 a1 fun k3 => parB N a1 q1 (pcS s0 (s0.2.2.2.2.2.2.2.2.2.2.2.2.2.1 + 1) k3 q1) (pcN s0 (s0.2.2.2.2.2.2.2.2.2.2.2.2.2.1 + 1 - 1) k3 q1) := rfl
theorem m_wait (hN : 2000 ≤ N) {s1 : MS} (h : RQ s1 T false (p + 1)) (w : TX T) (hp : p ≤ 60) {b0 : Nat} (hb : b0 + 4 < 240) (e : hr T p = 119) (hs : qT s s1) (h0 : pa s1 b0 = iI 119) (hk : ∀ k, k < b0 → pa s1 k = pa s k) : ∃ s', pcB N (iI (b0 : Int)) s1 = some s' ∧ PCm s s' T p b0 := by
  have l0 := lcp_len T [97, 105, 116] (p + 1)
  have hz : (nW T [97, 105, 116] (p + 1)).2 ≤ p + 1 + 3 := by show p + 1 + lcp T [97, 105, 116] (p + 1) ≤ p + 1 + 3; simp only [List.length_cons, List.length_nil] at l0; omega
  obtain ⟨s2, a1, a2, a3⟩ := m_three0 N h w (by omega) (c := 97) (d := 105) (e := 116) (by omega) (by omega) (by omega)
  have ix : iI (b0 : Int) + 1 = iI ((b0 + 1 : Nat) : Int) := by rw [i_lit, i_add]; rfl
  have hwd : wdF T p 9 0 0 = if lcp T [97, 105, 116] (p + 1) = ([97, 105, 116] : List Int).length then (some 7, p + 1 + ([97, 105, 116] : List Int).length) else (none, p + 1 + lcp T [97, 105, 116] (p + 1)) := wd_w e
  obtain ⟨c1, c2⟩ := cmd_wd hwd
  have up : ∀ v : Int32, (upd (pa s2) (b0 + 1) v) b0 = iI 119 ∧ (upd (pa s2) (b0 + 1) v) (b0 + 1) = v ∧ ∀ k, k < b0 → upd (pa s2) (b0 + 1) v k = pa s k := fun v => by
    refine ⟨?_, upd_eq, fun k hk9 => ?_⟩
    · rw [upd_ne (by omega), a2.pa, h0]
    · rw [upd_ne (by omega), a2.pa, hk k hk9]
  unfold pcB
  rw [show (97 : Int32) = iI 97 from rfl, show (105 : Int32) = iI 105 from rfl, show (116 : Int32) = iI 116 from rfl, a1, xcall_s, a3.2.2]
  by_cases hl : lcp T [97, 105, 116] (p + 1) = ([97, 105, 116] : List Int).length
  · obtain ⟨e1, e2⟩ := c2 hl
    rw [e2] at a3 hz ⊢
    have mh : fX13_here N s2 = some (iI (hr T (p + 1 + ([97, 105, 116] : List Int).length))) := m_here N a3 w (by omega)
    have hh := hr_rng w (p + 1 + ([97, 105, 116] : List Int).length)
    obtain ⟨w1, w2, w3⟩ := wt_pts T (p + 1 + ([97, 105, 116] : List Int).length)
    have hF : wT (fmS 7) = [68] := rfl
    rw [hF] at e1
    have fin : ∀ s' : MS, qT s2 s' → RQ s' T (wtS T (p + 1 + ([97, 105, 116] : List Int).length)).1 (wtS T (p + 1 + ([97, 105, 116] : List Int).length)).2.1 → pa s' = upd (pa s2) (b0 + 1) (iI (wtS T (p + 1 + ([97, 105, 116] : List Int).length)).2.2) → PCm s s' T p b0 := fun s' f1 f2 f3 => by
      obtain ⟨u1, u2, u3⟩ := up (iI (wtS T (p + 1 + ([97, 105, 116] : List Int).length)).2.2)
      refine ⟨(hs.tr a2.t).tr f1, ?_, fun hc c hc2 => ?_, fun k hk9 => by rw [f3]; exact u3 k hk9⟩
      · rw [e1, w1, w2, Bool.not_not]
        exact f2
      · rw [e1] at hc hc2
        have hc : (pts T [68] (p + 1 + ([97, 105, 116] : List Int).length)).1 = true := hc
        rw [w1] at hc
        have w3 := w3 (by simpa using hc)
        rw [← Option.some.inj hc2]
        refine ⟨by rw [f3]; exact u1, fun i hi => ?_⟩
        have hi : i < 1 := hi
        obtain rfl : i = 0 := by omega
        rw [f3, ← w3]
        show upd (pa s2) (b0 + 1) _ (b0 + 1 + 0) = iI (if 7 = 7 ∧ (pts T [68] (p + 1 + ([97, 105, 116] : List Int).length)).2.1.getD 0 (-1) = -1 then 1 else _)
        rw [Nat.add_zero, upd_eq]
        by_cases g : (pts T [68] (p + 1 + ([97, 105, 116] : List Int).length)).2.1.getD 0 (-1) = -1
        · rw [if_pos g, if_pos ⟨rfl, g⟩]
        · rw [if_neg g, if_neg (fun hh => g hh.2)]
    rw [if_pos (show iB false = 0 by decide), mh, xcall_s]
    unfold wtS at fin
    by_cases h32 : hr T (p + 1 + ([97, 105, 116] : List Int).length) = 32
    · obtain ⟨s3, d1, d2, d3⟩ := m_digits hN a3 w (by omega) (m := 2) (by omega)
      rw [if_pos h32] at fin
      refine ⟨Ms15 s3 (upd (pa s3) (b0 + 1) (iI (dgS T 2 (false, p + 1 + ([97, 105, 116] : List Int).length)).1)), ?_, fin _ d2.t d3 (by rw [← d2.pa]; rfl)⟩
      rw [if_pos (by rw [h32]; rfl), show (2 : Int32) = iI ((2 : Nat) : Int) from rfl, d1, xcall_s, ix, xrd_n (by omega) (by omega)]
    · rw [if_neg h32] at fin
      refine ⟨Ms15 s2 (upd (pa s2) (b0 + 1) 1), ?_, fin _ (qT.rf s2) a3 rfl⟩
      rw [if_neg (by rw [i_lit, i_eq (by omega) (by omega) (by omega) (by omega)]; exact h32), ix, xrd_n (by omega) (by omega)]
  · obtain ⟨e1, e2⟩ := c1 hl
    rw [e2] at a3 ⊢
    refine ⟨Ms15 s2 (upd (pa s2) (b0 + 1) 1), ?_, (hs.tr a2.t).tr (qT.rf s2), ?_, ?_, fun k hk9 => (up 1).2.2 k hk9⟩
    · rw [if_neg (show ¬ iB true = 0 by decide), ix, xrd_n (by omega) (by omega)]
    · rw [e1]; exact a3
    · rw [e1]; exact fun hh => absurd hh (by simp)
theorem m_opn (hN : 2000 ≤ N) {s1 : MS} (h : RQ s1 T false (p + 1)) (w : TX T) (hp : p ≤ 60) {b0 : Nat} (hb : b0 + 4 < 240) (e : hr T p = 111) (hs : qT s s1) (h0 : pa s1 b0 = iI 111) (hk : ∀ k, k < b0 → pa s1 k = pa s k) : ∃ s', fX13_parsesOpen N (iI (b0 : Int)) s1 = some s' ∧ PCm s s' T p b0 := by
  obtain ⟨s', a1, a2, a3, a4⟩ := m_parsesOpen hN h w (by omega) hb
  have hwd : wdF T p 9 0 0 = if lcp T [112, 101, 110] (p + 1) = ([112, 101, 110] : List Int).length then (some 2, p + 1 + ([112, 101, 110] : List Int).length) else (none, p + 1 + lcp T [112, 101, 110] (p + 1)) := wd_o e
  obtain ⟨c1, c2⟩ := cmd_wd hwd
  have hkp : ∀ k, k < b0 → pa s' k = pa s k := fun k hk9 => by rw [a4, upd_ne (by omega), upd_ne (by omega), hk k hk9]
  refine ⟨s', a1, hs.tr a2, ?_, ?_, hkp⟩
  · by_cases hl : lcp T [112, 101, 110] (p + 1) = ([112, 101, 110] : List Int).length
    · obtain ⟨e1, e2⟩ := c2 hl
      obtain ⟨w1, w2, w3⟩ := op_pts T (p + 1 + ([112, 101, 110] : List Int).length)
      have hF : wT (fmS 2) = [107, 68] := rfl
      rw [e2] at a3
      rw [e1, hF]
      show RQ s' T (!(pts T [107, 68] (p + 1 + ([112, 101, 110] : List Int).length)).1) (pts T [107, 68] (p + 1 + ([112, 101, 110] : List Int).length)).2.2
      rw [w1, w2, Bool.not_not]
      exact a3
    · obtain ⟨e1, e2⟩ := c1 hl
      have y : ndS T 32 (true, p + 1 + lcp T [112, 101, 110] (p + 1)) = (true, p + 1 + lcp T [112, 101, 110] (p + 1)) := by unfold ndS; rw [if_neg (by simp)]
      rw [e2, y] at a3
      unfold opS at a3
      rw [if_neg (by simp)] at a3
      rw [e1]
      exact a3
  · intro hc c hc2
    by_cases hl : lcp T [112, 101, 110] (p + 1) = ([112, 101, 110] : List Int).length
    · obtain ⟨e1, e2⟩ := c2 hl
      obtain ⟨w1, w2, w3⟩ := op_pts T (p + 1 + ([112, 101, 110] : List Int).length)
      have hF : wT (fmS 2) = [107, 68] := rfl
      rw [e1, hF] at hc hc2
      rw [e2] at a4
      have hc : (pts T [107, 68] (p + 1 + ([112, 101, 110] : List Int).length)).1 = true := hc
      rw [w1] at hc
      obtain ⟨w4, w5⟩ := w3 (by simpa using hc)
      rw [← w4, ← w5] at a4
      rw [← Option.some.inj hc2]
      refine ⟨by rw [a4, upd_ne (by omega), upd_ne (by omega)]; exact h0, fun i hi => ?_⟩
      have hi : i < 2 := hi
      rw [if_neg (show ¬ (2 = 7 ∧ _) from fun hh => absurd hh.1 (by decide)), a4]
      by_cases hi0 : i = 0
      · subst hi0
        rw [upd_ne (by omega), upd_at (by omega)]
      · obtain rfl : i = 1 := by omega
        rw [upd_at (by omega)]
    · obtain ⟨e1, e2⟩ := c1 hl
      rw [e1] at hc
      exact absurd hc (by simp)
end CA
