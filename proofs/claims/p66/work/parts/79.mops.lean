/-! ===== changes: the reference ===== -/
section MO
variable {s : MS} {S : SG}
theorem whyE_le (n : Nat) (d c m : Int) : whyE n d c m ≤ 2 := by
  unfold whyE
  split
  · omega
  · split <;> omega
theorem GG.mark {g : Nat → Int32} (h : GG g S) (w : WG S) {j : Nat} (hj : j < jK (gJ S)) : GG (upd g (137 + j) (iI 1)) (wJ S (sMark (gJ S) (jN (gJ S) - jK (gJ S) + j) 1)) := by
  have hk := jK_le (gJ S)
  obtain ⟨f1, f2, f3, f4⟩ := w.fr
  obtain ⟨r1, r2, r3, r4, r5, r6, r7⟩ := h
  refine ⟨r1.of f1 fun k hk => upd_ne (by omega), ⟨?_, ?_, fun i hi => ?_⟩, r3.of f2 fun k hk => upd_ne (by omega), r4.of f3 fun k hk => upd_ne (by omega), r5.of f4 fun k hk => upd_ne (by omega), by rw [upd_ne (by omega)]; exact r6, by rw [upd_ne (by omega)]; exact r7⟩
  · rw [upd_ne (by omega)]; exact r2.1
  · rw [upd_ne (by omega)]; exact r2.2.1
  · have hi : i < jK (gJ S) := hi
    have q := r2.2.2 i hi
    show upd g (137 + j) (iI 1) (57 + i) = iI (jD (gJ S) (jN (gJ S) - jK (gJ S) + i)) ∧ upd g (137 + j) (iI 1) (77 + i) = iI (jC (gJ S) (jN (gJ S) - jK (gJ S) + i)) ∧ upd g (137 + j) (iI 1) (97 + i) = iI (jA (gJ S) (jN (gJ S) - jK (gJ S) + i)) ∧ upd g (137 + j) (iI 1) (117 + i) = iI (jH (gJ S) (jN (gJ S) - jK (gJ S) + i)) ∧ upd g (137 + j) (iI 1) (137 + i) = iI (updI (jM (gJ S)) (jN (gJ S) - jK (gJ S) + j) 1 (jN (gJ S) - jK (gJ S) + i))
    rw [upd_ne (by omega), upd_ne (by omega), upd_ne (by omega), upd_ne (by omega)]
    refine ⟨q.1, q.2.1, q.2.2.1, q.2.2.2.1, ?_⟩
    by_cases e : i = j
    · subst e; rw [upd_eq, updI_eq]
    · rw [upd_ne (by omega), updI_ne (by omega)]; exact q.2.2.2.2
end MO
