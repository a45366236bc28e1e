/-! ===== readers: prompts, costs, bills, matches, ranks ===== -/
section RD2
variable {N : Nat} {t : ThlS} {s : MS} {S : SG}
theorem c_checkPro (N : Nat) (hR : RBo t.1 S) (w : WG S) {z : Int} (hz : -2147483648 ≤ z ∧ z < 2147483648) : fX12_checkPrompt N (iI z) t = some (if 0 ≤ z ∧ z < (gP S).length then 0 else 1) := by
  unfold fX12_checkPrompt
  rw [c_phas N hR.2.2.1 w.fr.2.1 hz, xcall_s]
  by_cases h : 0 ≤ z ∧ z < (gP S).length
  · rw [decide_eq_true h, if_pos h]; rfl
  · rw [decide_eq_false h, if_neg h]; rfl
/-! costs -/
/-! bills -/
theorem plcI_cases (z : Int) (L : List (Int × Int)) : plcI z L = -1 ∨ ∃ (i : Nat) (x : Int × Int), plcI z L = i ∧ L[i]? = some x := by
  unfold plcI
  cases h : plc z L with
  | none => exact .inl rfl
  | some i =>
    obtain ⟨x, hx, _⟩ := plc_lt h
    exact .inr ⟨i, x, rfl, hx⟩
theorem c_checkedPlace (hN : 2000 ≤ N) (hR : RBo t.1 S) (w : WG S) {z : Int} (hz : -2147483648 ≤ z ∧ z < 2147483648) : fX12_checkedPlaceOf N (iI z) t = some (if plcI z (gB S).1 = -1 then (2, iI 0) else (0, iI (plcI z (gB S).1))) := by
  have hl := w.fr.2.2.2
  unfold fX12_checkedPlaceOf
  rw [c_placeOf hN hR.2.2.2.2.1 w.2.2.2.2.1 hz, xcall_s]
  rcases plcI_cases z (gB S).1 with h | ⟨i, x, h, hx⟩
  · rw [if_pos h, h]; rfl
  · have := lt_len hx
    rw [if_neg (show ¬ plcI z (gB S).1 = -1 by omega), h, if_neg (by rw [show (-1 : Int32) = iI (-1) from rfl, i_eq (by omega) (by omega) (by omega) (by omega)]; omega)]
end RD2
