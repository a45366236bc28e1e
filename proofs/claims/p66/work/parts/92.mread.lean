/-! ===== the reference's reader ===== -/
def ndS (T : List Int) (c : Int) (z : Bool × Nat) : Bool × Nat := if z.1 = false ∧ hr T z.2 = c then (false, z.2 + 1) else (true, z.2)
def dgS (T : List Int) (m : Nat) (z : Bool × Nat) : Int × Bool × Nat := let y := ndS T 32 z; if y.1 = false ∧ isDg (hr T y.2) = true then ((rdN T m y.2 0).1, false, (rdN T m y.2 0).2) else (0, true, y.2)
theorem rdN_end (T : List Int) : ∀ m p v, p ≤ (rdN T m p v).2 ∧ (rdN T m p v).2 ≤ p + m := by
  intro m
  induction m with
  | zero => intro p v; exact ⟨Nat.le_refl _, Nat.le_refl _⟩
  | succ m ih =>
    intro p v
    rw [rdN]
    split
    · have := ih (p + 1) (max v 0 * 10 + hr T p - 48)
      omega
    · exact ⟨Nat.le_refl _, Nat.le_add_right _ _⟩
section MR
variable {N : Nat} {s : MS} {T : List Int} {b : Bool} {p : Nat}
theorem ndS_le (T : List Int) (c : Int) (z : Bool × Nat) : z.2 ≤ (ndS T c z).2 ∧ (ndS T c z).2 ≤ z.2 + 1 := by
  unfold ndS
  split
  · exact ⟨Nat.le_succ _, Nat.le_refl _⟩
  · exact ⟨Nat.le_refl _, Nat.le_succ _⟩
end MR
