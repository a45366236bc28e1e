/-! ===== the words by their first letter ===== -/
theorem wd_gen (T : List Int) (p : Nat) : wdF T p 9 0 0 = if lcp T (wT 0) p = 4 then (some 0, p + 4) else if lcp T (wT 1) p = 4 then (some 1, p + 4) else if lcp T (wT 2) p = 4 then (some 2, p + 4) else if lcp T (wT 3) p = 3 then (some 3, p + 3) else if lcp T (wT 4) p = 4 then (some 4, p + 4) else if lcp T (wT 5) p = 4 then (some 5, p + 4) else if lcp T (wT 6) p = 3 then (some 6, p + 3) else if lcp T (wT 7) p = 4 then (some 7, p + 4) else if lcp T (wT 8) p = 7 then (some 8, p + 7) else (none, p + max (max (max (max (max (max (max (max (max 0 (lcp T (wT 0) p)) (lcp T (wT 1) p)) (lcp T (wT 2) p)) (lcp T (wT 3) p)) (lcp T (wT 4) p)) (lcp T (wT 5) p)) (lcp T (wT 6) p)) (lcp T (wT 7) p)) (lcp T (wT 8) p)) := rfl
theorem lcp_c (T : List Int) (c : Int) (r : List Int) (p : Nat) : lcp T (c :: r) p = if hr T p = c then lcp T r (p + 1) + 1 else 0 := rfl
theorem wd_all (T : List Int) (p : Nat) : lcp T (wT 0) p = (if hr T p = 112 then lcp T [111, 115, 116] (p + 1) + 1 else 0) ∧ lcp T (wT 1) p = (if hr T p = 98 then lcp T [97, 99, 107] (p + 1) + 1 else 0) ∧ lcp T (wT 2) p = (if hr T p = 111 then lcp T [112, 101, 110] (p + 1) + 1 else 0) ∧ lcp T (wT 3) p = (if hr T p = 98 then lcp T [117, 121] (p + 1) + 1 else 0) ∧ lcp T (wT 4) p = (if hr T p = 115 then lcp T [101, 108, 108] (p + 1) + 1 else 0) ∧ lcp T (wT 5) p = (if hr T p = 98 then lcp T [105, 108, 108] (p + 1) + 1 else 0) ∧ lcp T (wT 6) p = (if hr T p = 112 then lcp T [97, 121] (p + 1) + 1 else 0) ∧ lcp T (wT 7) p = (if hr T p = 119 then lcp T [97, 105, 116] (p + 1) + 1 else 0) ∧ lcp T (wT 8) p = (if hr T p = 99 then lcp T [117, 114, 116, 97, 105, 110] (p + 1) + 1 else 0) := ⟨rfl, rfl, rfl, rfl, rfl, rfl, rfl, rfl, rfl⟩
section WD
variable {T : List Int} {p : Nat}
/-- a letter no word begins with -/
theorem wd_no (h : hr T p ≠ 112 ∧ hr T p ≠ 98 ∧ hr T p ≠ 111 ∧ hr T p ≠ 115 ∧ hr T p ≠ 119 ∧ hr T p ≠ 99) : wdF T p 9 0 0 = (none, p) := by
  obtain ⟨e0, e1, e2, e3, e4, e5, e6, e7, e8⟩ := wd_all T p
  obtain ⟨h1, h2, h3, h4, h5, h6⟩ := h
  rw [if_neg h1] at e0 e6
  rw [if_neg h2] at e1 e3 e5
  rw [if_neg h3] at e2
  rw [if_neg h4] at e4
  rw [if_neg h5] at e7
  rw [if_neg h6] at e8
  rw [wd_gen, e0, e1, e2, e3, e4, e5, e6, e7, e8]
  rfl
theorem wd_o (h : hr T p = 111) : wdF T p 9 0 0 = if lcp T [112, 101, 110] (p + 1) = 3 then (some 2, p + 4) else (none, p + 1 + lcp T [112, 101, 110] (p + 1)) := by
  obtain ⟨e0, e1, e2, e3, e4, e5, e6, e7, e8⟩ := wd_all T p
  rw [if_neg (by omega)] at e0 e1 e3 e4 e5 e6 e7 e8
  rw [if_pos h] at e2
  rw [wd_gen, e0, e1, e2, e3, e4, e5, e6, e7, e8]
  by_cases c : lcp T [112, 101, 110] (p + 1) = 3
  · rw [c]; rfl
  · rw [if_neg (by decide), if_neg (by decide), if_neg (by omega), if_neg (by decide), if_neg (by decide), if_neg (by decide), if_neg (by decide), if_neg (by decide), if_neg (by decide), if_neg c]
    congr 1
    omega
theorem wd_s (h : hr T p = 115) : wdF T p 9 0 0 = if lcp T [101, 108, 108] (p + 1) = 3 then (some 4, p + 4) else (none, p + 1 + lcp T [101, 108, 108] (p + 1)) := by
  obtain ⟨e0, e1, e2, e3, e4, e5, e6, e7, e8⟩ := wd_all T p
  rw [if_neg (by omega)] at e0 e1 e2 e3 e5 e6 e7 e8
  rw [if_pos h] at e4
  rw [wd_gen, e0, e1, e2, e3, e4, e5, e6, e7, e8]
  by_cases c : lcp T [101, 108, 108] (p + 1) = 3
  · rw [c]; rfl
  · rw [if_neg (by decide), if_neg (by decide), if_neg (by decide), if_neg (by decide), if_neg (by omega), if_neg (by decide), if_neg (by decide), if_neg (by decide), if_neg (by decide), if_neg c]
    congr 1
    omega
theorem wd_w (h : hr T p = 119) : wdF T p 9 0 0 = if lcp T [97, 105, 116] (p + 1) = 3 then (some 7, p + 4) else (none, p + 1 + lcp T [97, 105, 116] (p + 1)) := by
  obtain ⟨e0, e1, e2, e3, e4, e5, e6, e7, e8⟩ := wd_all T p
  rw [if_neg (by omega)] at e0 e1 e2 e3 e4 e5 e6 e8
  rw [if_pos h] at e7
  rw [wd_gen, e0, e1, e2, e3, e4, e5, e6, e7, e8]
  by_cases c : lcp T [97, 105, 116] (p + 1) = 3
  · rw [c]; rfl
  · rw [if_neg (by decide), if_neg (by decide), if_neg (by decide), if_neg (by decide), if_neg (by decide), if_neg (by decide), if_neg (by decide), if_neg (by omega), if_neg (by decide), if_neg c]
    congr 1
    omega
theorem wd_c (h : hr T p = 99) : wdF T p 9 0 0 = if lcp T [117, 114, 116, 97, 105, 110] (p + 1) = 6 then (some 8, p + 7) else (none, p + 1 + lcp T [117, 114, 116, 97, 105, 110] (p + 1)) := by
  obtain ⟨e0, e1, e2, e3, e4, e5, e6, e7, e8⟩ := wd_all T p
  rw [if_neg (by omega)] at e0 e1 e2 e3 e4 e5 e6 e7
  rw [if_pos h] at e8
  rw [wd_gen, e0, e1, e2, e3, e4, e5, e6, e7, e8]
  by_cases c : lcp T [117, 114, 116, 97, 105, 110] (p + 1) = 6
  · rw [c]; rfl
  · rw [if_neg (by decide), if_neg (by decide), if_neg (by decide), if_neg (by decide), if_neg (by decide), if_neg (by decide), if_neg (by decide), if_neg (by decide), if_neg (by omega), if_neg c]
    congr 1
    omega
/-- post or pay, by the second letter -/
theorem wd_p (h : hr T p = 112) : wdF T p 9 0 0 = if hr T (p + 1) = 97 then (if lcp T [97, 121] (p + 1) = 2 then (some 6, p + 3) else (none, p + 1 + lcp T [97, 121] (p + 1))) else (if lcp T [111, 115, 116] (p + 1) = 3 then (some 0, p + 4) else (none, p + 1 + lcp T [111, 115, 116] (p + 1))) := by
  obtain ⟨e0, e1, e2, e3, e4, e5, e6, e7, e8⟩ := wd_all T p
  rw [if_neg (by omega)] at e1 e2 e3 e4 e5 e7 e8
  rw [if_pos h] at e0 e6
  by_cases c : hr T (p + 1) = 97
  · have z : lcp T [111, 115, 116] (p + 1) = 0 := by rw [lcp_c, if_neg (by omega)]
    rw [z] at e0
    rw [wd_gen, e0, e1, e2, e3, e4, e5, e6, e7, e8, if_pos c]
    by_cases c2 : lcp T [97, 121] (p + 1) = 2
    · rw [c2]; rfl
    · rw [if_neg (by decide), if_neg (by decide), if_neg (by decide), if_neg (by decide), if_neg (by decide), if_neg (by decide), if_neg (by omega), if_neg (by decide), if_neg (by decide), if_neg c2]
      congr 1
      omega
  · have z : lcp T [97, 121] (p + 1) = 0 := by rw [lcp_c, if_neg c]
    rw [z] at e6
    rw [wd_gen, e0, e1, e2, e3, e4, e5, e6, e7, e8, if_neg c]
    by_cases c2 : lcp T [111, 115, 116] (p + 1) = 3
    · rw [c2]; rfl
    · rw [if_neg (by omega), if_neg (by decide), if_neg (by decide), if_neg (by decide), if_neg (by decide), if_neg (by decide), if_neg (by decide), if_neg (by decide), if_neg (by decide), if_neg c2]
      congr 1
      omega
end WD
