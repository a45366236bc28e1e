/-! ===== the reference: what its numbers say; its accounts ===== -/
abbrev SJ : Type := Nat × (Nat → Int) × (Nat → Int) × (Nat → Int) × (Nat → Int) × (Nat → Int)
abbrev jN (J : SJ) : Nat := J.1
abbrev jD (J : SJ) : Nat → Int := J.2.1
abbrev jC (J : SJ) : Nat → Int := J.2.2.1
abbrev jA (J : SJ) : Nat → Int := J.2.2.2.1
abbrev jH (J : SJ) : Nat → Int := J.2.2.2.2.1
abbrev jM (J : SJ) : Nat → Int := J.2.2.2.2.2
abbrev SPe : Type := Int × Int × Int × Int × Int × Int
abbrev SP : Type := List SPe
abbrev SL : Type := List (Int × Int)
abbrev SB : Type := List (Int × Int) × Nat
abbrev SG : Type := SA × SJ × SP × SL × SB × Nat × Nat
abbrev gA (S : SG) : SA := S.1
abbrev gJ (S : SG) : SJ := S.2.1
abbrev gP (S : SG) : SP := S.2.2.1
abbrev gL (S : SG) : SL := S.2.2.2.1
abbrev gB (S : SG) : SB := S.2.2.2.2.1
abbrev gH (S : SG) : Nat := S.2.2.2.2.2.1
abbrev gC (S : SG) : Nat := S.2.2.2.2.2.2
def jK (J : SJ) : Nat := min (jN J) 20
def GA (g : Nat → Int32) (A : SA) : Prop := g 1 = iI (aN A : Int) ∧ (∀ i, i < aN A → g (9 + i) = iI (aK A i) ∧ g (21 + i) = iI (aP A i + 1)) ∧ ∀ i, i < 12 → g (33 + i) = iI (aD A i) ∧ g (45 + i) = iI (aC A i)
def GJ (g : Nat → Int32) (J : SJ) : Prop := g 3 = iI (jN J : Int) ∧ g 2 = iI (jK J : Int) ∧ ∀ j, j < jK J → g (57 + j) = iI (jD J (jN J - jK J + j)) ∧ g (77 + j) = iI (jC J (jN J - jK J + j)) ∧ g (97 + j) = iI (jA J (jN J - jK J + j)) ∧ g (117 + j) = iI (jH J (jN J - jK J + j)) ∧ g (137 + j) = iI (jM J (jN J - jK J + j))
def GP (g : Nat → Int32) (h : Nat) (P : SP) : Prop := g 4 = iI (P.length : Int) ∧ ∀ (j : Nat) (x : SPe), P[j]? = some x → g (157 + j) = iI x.1 ∧ g (163 + j) = iI x.2.1 ∧ g (169 + j) = iI x.2.2.1 ∧ g (175 + j) = iI x.2.2.2.1 ∧ g (181 + j) = iI x.2.2.2.2.1 ∧ g (187 + j) = iI ((h : Int) + x.2.2.2.2.2 - x.2.2.2.1)
def GL (g : Nat → Int32) (L : SL) : Prop := g 5 = iI (L.length : Int) ∧ ∀ (j : Nat) (x : Int × Int), L[j]? = some x → g (193 + j) = iI x.1 ∧ g (201 + j) = iI x.2
def GB (g : Nat → Int32) (B : SB) : Prop := g 6 = iI (B.1.length : Int) ∧ g 7 = iI (B.2 : Int) ∧ ∀ (j : Nat) (x : Int × Int), B.1[j]? = some x → g (209 + j) = iI x.1 ∧ g (219 + j) = iI x.2
def GG (g : Nat → Int32) (S : SG) : Prop := GA g (gA S) ∧ GJ g (gJ S) ∧ GP g (gH S) (gP S) ∧ GL g (gL S) ∧ GB g (gB S) ∧ g 0 = iI (gH S : Int) ∧ g 8 = iI (gC S : Int)
theorem lt_len {α : Type} {P : List α} {j : Nat} {x : α} (h : P[j]? = some x) : j < P.length := (List.getElem?_eq_some_iff.mp h).1
section FR
variable {g g' : Nat → Int32}
theorem GA.of {A : SA} (h : GA g A) (hn : aN A ≤ 12) (he : ∀ k, k = 1 ∨ (9 ≤ k ∧ k < 57) → g' k = g k) : GA g' A := by
  refine ⟨by rw [he _ (by omega)]; exact h.1, fun i hi => ?_, fun i hi => ?_⟩
  · rw [he _ (by omega), he _ (by omega)]; exact h.2.1 i hi
  · rw [he _ (by omega), he _ (by omega)]; exact h.2.2 i hi
theorem jK_le (J : SJ) : jK J ≤ 20 := by unfold jK; omega
theorem GJ.of {J : SJ} (h : GJ g J) (he : ∀ k, k = 2 ∨ k = 3 ∨ (57 ≤ k ∧ k < 157) → g' k = g k) : GJ g' J := by
  have := jK_le J
  refine ⟨by rw [he _ (by omega)]; exact h.1, by rw [he _ (by omega)]; exact h.2.1, fun i hi => ?_⟩
  rw [he _ (by omega), he _ (by omega), he _ (by omega), he _ (by omega), he _ (by omega)]; exact h.2.2 i hi
theorem GP.of {t : Nat} {P : SP} (h : GP g t P) (hn : P.length ≤ 6) (he : ∀ k, k = 4 ∨ (157 ≤ k ∧ k < 193) → g' k = g k) : GP g' t P := by
  refine ⟨by rw [he _ (by omega)]; exact h.1, fun j x hx => ?_⟩
  have := lt_len hx
  rw [he _ (by omega), he _ (by omega), he _ (by omega), he _ (by omega), he _ (by omega), he _ (by omega)]; exact h.2 j x hx
theorem GL.of {L : SL} (h : GL g L) (hn : L.length ≤ 8) (he : ∀ k, k = 5 ∨ (193 ≤ k ∧ k < 209) → g' k = g k) : GL g' L := by
  refine ⟨by rw [he _ (by omega)]; exact h.1, fun j x hx => ?_⟩
  have := lt_len hx
  rw [he _ (by omega), he _ (by omega)]; exact h.2 j x hx
theorem GB.of {B : SB} (h : GB g B) (hn : B.1.length ≤ 10) (he : ∀ k, k = 6 ∨ k = 7 ∨ (209 ≤ k ∧ k < 229) → g' k = g k) : GB g' B := by
  refine ⟨by rw [he _ (by omega)]; exact h.1, by rw [he _ (by omega)]; exact h.2.1, fun j x hx => ?_⟩
  have := lt_len hx
  rw [he _ (by omega), he _ (by omega)]; exact h.2.2 j x hx
end FR
section MA
variable {s : MS} {A : SA}
theorem GA.k {g : Nat → Int32} (h : GA g A) {i : Nat} (hi : i < aN A) : g (9 + i) = iI (aK A i) := (h.2.1 i hi).1
theorem GA.p {g : Nat → Int32} (h : GA g A) {i : Nat} (hi : i < aN A) : g (21 + i) = iI (aP A i + 1) := (h.2.1 i hi).2
theorem GA.d {g : Nat → Int32} (h : GA g A) {i : Nat} (hi : i < 12) : g (33 + i) = iI (aD A i) := (h.2.2 i hi).1
theorem GA.c {g : Nat → Int32} (h : GA g A) {i : Nat} (hi : i < 12) : g (45 + i) = iI (aC A i) := (h.2.2 i hi).2
end MA
