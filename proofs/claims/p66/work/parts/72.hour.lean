/-! ===== an hour passes ===== -/
def pre (x : SPe) : SPe := (x.1, x.2.1, x.2.2.1, x.2.2.2.1, x.2.2.2.2.1, x.2.2.2.2.2 - 1)
theorem tick_pre {x : SPe} (h : ¬ x.2.2.2.2.2 = 1) : tick x = pre x := by unfold tick pre; rw [if_neg h]
def duE (h : Nat) (AJ : SA × SJ) (x : SPe) : SA × SJ := if x.2.2.2.2.2 = 1 then (sMove AJ.1 x.1.toNat x.2.1.toNat x.2.2.1, sEnterJ AJ.2 x.1 x.2.1 x.2.2.1 h 0) else AJ
def duF (h : Nat) (AJ : SA × SJ) : SP → SA × SJ
  | [] => AJ
  | x :: r => duF h (duE h AJ x) r
def duC : SP → Nat
  | [] => 0
  | x :: r => (if x.2.2.2.2.2 = 1 then 1 else 0) + duC r
theorem duF_snoc (h : Nat) : ∀ (P : SP) (AJ : SA × SJ) (x : SPe), duF h AJ (P ++ [x]) = duE h (duF h AJ P) x := by
  intro P
  induction P with
  | nil => intro AJ x; rfl
  | cons y r ih => intro AJ x; exact ih (duE h AJ y) x
theorem duC_snoc : ∀ (P : SP) (x : SPe), duC (P ++ [x]) = duC P + (if x.2.2.2.2.2 = 1 then 1 else 0) := by
  intro P
  induction P with
  | nil => intro x; show _ + 0 = 0 + _; omega
  | cons y r ih => intro x; show _ + duC (r ++ [x]) = _ + duC r + _; rw [ih]; omega
theorem duC_le : ∀ P : SP, duC P ≤ P.length := by
  intro P
  induction P with
  | nil => exact Nat.le_refl _
  | cons y r ih => rw [duC, List.length_cons]; split <;> omega
theorem duF_n (h : Nat) : ∀ (P : SP) (AJ : SA × SJ), aN (duF h AJ P).1 = aN AJ.1 ∧ jN (duF h AJ P).2 = jN AJ.2 + duC P := by
  intro P
  induction P with
  | nil => intro AJ; exact ⟨rfl, rfl⟩
  | cons y r ih =>
    intro AJ
    obtain ⟨h1, h2⟩ := ih (duE h AJ y)
    rw [duF, h1, h2, duC]
    unfold duE
    split
    · exact ⟨rfl, by show jN AJ.2 + 1 + duC r = _; omega⟩
    · exact ⟨rfl, by omega⟩
section MH
variable {s : MS} {A : SA} {J : SJ} {P : SP} {n : Nat}
end MH
section MD
variable {s : MS} {A : SA} {J : SJ} {P : SP} {n : Nat}
theorem GP.upd {g : Nat → Int32} {t : Nat} (h : GP g t P) (hl : P.length ≤ 6) {i : Nat} {x : SPe} (hx : P[i]? = some x) (a b : Int) : GP (upd (upd g (187 + i) (iI ((t : Int) + b - x.2.2.2.1))) (181 + i) (iI a)) t (P.set i (x.1, x.2.1, x.2.2.1, x.2.2.2.1, a, b)) := by
  have hi := lt_len hx
  refine ⟨by rw [upd_ne (by omega), upd_ne (by omega), List.length_set]; exact h.1, fun j y hy => ?_⟩
  have hj := lt_len hy
  rw [List.length_set] at hj
  rw [List.getElem?_set] at hy
  by_cases e : i = j
  · subst e
    rw [if_pos rfl, if_pos hi] at hy
    cases hy
    have := h.2 i x hx
    simp (disch := omega) only [upd_ne, upd_eq]
    exact ⟨this.1, this.2.1, this.2.2.1, this.2.2.2.1, by trivial, by trivial⟩
  · rw [if_neg e] at hy
    have := h.2 j y hy
    simp (disch := omega) only [upd_ne, upd_eq]
    exact this
end MD
