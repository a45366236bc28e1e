/-! ===== back, buy, bill by the second letter ===== -/
section WB
variable {T : List Int} {p : Nat}
theorem wd_b (h : hr T p = 98) : wdF T p 9 0 0 = if hr T (p + 1) = 117 then (if lcp T [117, 121] (p + 1) = 2 then (some 3, p + 3) else (none, p + 1 + lcp T [117, 121] (p + 1))) else if hr T (p + 1) = 105 then (if lcp T [105, 108, 108] (p + 1) = 3 then (some 5, p + 4) else (none, p + 1 + lcp T [105, 108, 108] (p + 1))) else (if lcp T [97, 99, 107] (p + 1) = 3 then (some 1, p + 4) else (none, p + 1 + lcp T [97, 99, 107] (p + 1))) := by
  obtain ⟨e0, e1, e2, e3, e4, e5, e6, e7, e8⟩ := wd_all T p
  rw [if_neg (by omega)] at e0 e2 e4 e6 e7 e8
  rw [if_pos h] at e1 e3 e5
  by_cases c : hr T (p + 1) = 117
  · have z1 : lcp T [97, 99, 107] (p + 1) = 0 := by rw [lcp_c, if_neg (by omega)]
    have z2 : lcp T [105, 108, 108] (p + 1) = 0 := by rw [lcp_c, if_neg (by omega)]
    rw [z1] at e1
    rw [z2] at e5
    rw [wd_gen, e0, e1, e2, e3, e4, e5, e6, e7, e8, if_pos c]
    by_cases c2 : lcp T [117, 121] (p + 1) = 2
    · rw [c2]; rfl
    · rw [if_neg (by decide), if_neg (by decide), if_neg (by decide), if_neg (by omega), if_neg (by decide), if_neg (by decide), if_neg (by decide), if_neg (by decide), if_neg (by decide), if_neg c2]
      congr 1
      omega
  · have z3 : lcp T [117, 121] (p + 1) = 0 := by rw [lcp_c, if_neg c]
    rw [z3] at e3
    by_cases c1 : hr T (p + 1) = 105
    · have z1 : lcp T [97, 99, 107] (p + 1) = 0 := by rw [lcp_c, if_neg (by omega)]
      rw [z1] at e1
      rw [wd_gen, e0, e1, e2, e3, e4, e5, e6, e7, e8, if_neg c, if_pos c1]
      by_cases c2 : lcp T [105, 108, 108] (p + 1) = 3
      · rw [c2]; rfl
      · rw [if_neg (by decide), if_neg (by decide), if_neg (by decide), if_neg (by decide), if_neg (by decide), if_neg (by omega), if_neg (by decide), if_neg (by decide), if_neg (by decide), if_neg c2]
        congr 1
        omega
    · have z2 : lcp T [105, 108, 108] (p + 1) = 0 := by rw [lcp_c, if_neg c1]
      rw [z2] at e5
      rw [wd_gen, e0, e1, e2, e3, e4, e5, e6, e7, e8, if_neg c, if_neg c1]
      by_cases c2 : lcp T [97, 99, 107] (p + 1) = 3
      · rw [c2]; rfl
      · rw [if_neg (by decide), if_neg (by omega), if_neg (by decide), if_neg (by decide), if_neg (by decide), if_neg (by decide), if_neg (by decide), if_neg (by decide), if_neg (by decide), if_neg c2]
        congr 1
        omega
end WB
