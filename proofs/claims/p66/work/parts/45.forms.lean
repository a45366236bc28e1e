/-! forms of members that may throw -/
section XTH
variable {γ : Type}
def xthr (x : Nat) (T K : γ) : γ := if x = 0 then K else T
theorem x_th0 {x : Nat} {T K o : γ} (h : xthr x T K = o) (e : x = 0) : K = o := by unfold xthr at h; rw [if_pos e] at h; exact h
theorem x_th1 {x : Nat} {T K o : γ} (h : xthr x T K = o) (e : x ≠ 0) : T = o := by unfold xthr at h; rw [if_neg e] at h; exact h
end XTH
