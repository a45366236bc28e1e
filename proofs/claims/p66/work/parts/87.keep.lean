/-! ===== a bill in a match; undo, save, restore; the text that waits; the output ===== -/
section KP
variable {N : Nat} {t : ThlS} {r : Nat → BooS} {s : MS} {S : SG} {W : SO} {a b : Nat}
theorem nil_at {α : Type} {p : Prop} {i : Nat} {x : α} (h : ([] : List α)[i]? = some x) : p := by simp at h
theorem dropL_at {α : Type} {H : List α} {i : Nat} {x : α} (h : H.dropLast[i]? = some x) : H[i]? = some x ∧ i < H.length - 1 := by
  have hl := lt_len h
  rw [List.length_dropLast] at hl
  rw [List.getElem?_dropLast, if_pos hl] at h
  exact ⟨h, hl⟩
theorem uprow_self (rs : Nat → BooS) (k : Nat) : uprow rs k (rs k) = rs := by
  funext j
  unfold uprow
  by_cases h : j = k
  · rw [if_pos h, h]
  · rw [if_neg h]
theorem hist_last {H : List SG} (h : H ≠ []) : ∃ L, H[H.length - 1]? = some L ∧ L ∈ H := by
  have : 0 < H.length := by cases H with | nil => exact absurd rfl h | cons => simp
  exact ⟨H[H.length - 1], List.getElem?_eq_getElem (by omega), List.getElem_mem _⟩
theorem AC.app {f : Nat → Int32} {L : List Int} (h : AC f L) (c : Int) : AC (upd f L.length (iI c)) (L ++ [c]) := by
  intro i x hx
  have hi := lt_len hx
  rw [List.length_append] at hi
  simp only [List.length_cons, List.length_nil] at hi
  by_cases e : i < L.length
  · rw [List.getElem?_append_left e] at hx
    rw [upd_ne (by omega)]
    exact h i x hx
  · have e : i = L.length := by omega
    subst e
    simp at hx
    subst hx
    rw [upd_eq]
def tW (W : SO) (T : List Int) : SO := (oS W, oH W, oV W, T, W.2.2.2.2)
end KP
