/-! ===== what holds at all times; how it is kept ===== -/
def iabs (x : Int) : Int := if 0 ≤ x then x else -x
def oB (A : SA) (i : Nat) : Int := if aK A i = 105 ∨ aK A i = 101 then iabs (aD A i - aC A i) else 0
/-- what is still to be levelled counts beside what has been moved -/
def phi (A : SA) : Int := sumN (aD A) (aN A) + sumN (oB A) (aN A)
theorem iabs_nn (x : Int) : 0 ≤ iabs x := by unfold iabs; split <;> omega
theorem oB_nn (A : SA) (i : Nat) : 0 ≤ oB A i := by
  unfold oB
  split
  · exact iabs_nn _
  · exact Int.le_refl _
theorem phi_ge (A : SA) : sumN (aD A) (aN A) ≤ phi A := by
  have := sumN_nonneg (f := oB A) (aN A) (fun i _ => oB_nn A i)
  unfold phi
  omega
def WB0 (A : SA) : Prop := 6 ≤ aN A ∧ aN A ≤ 12 ∧ (∀ i, i < aN A → isKd (aK A i) ∧ -1 ≤ aP A i ∧ aP A i < i ∧ 0 ≤ aD A i ∧ 0 ≤ aC A i) ∧ sumN (aD A) (aN A) = sumN (aC A) (aN A) ∧ (∀ i, aN A ≤ i → aD A i = 0 ∧ aC A i = 0)
theorem WA.of {A : SA} (h : WB0 A) (hp : phi A < 268435456) : WA A := ⟨h.1, h.2.1, h.2.2.1, h.2.2.2.1, h.2.2.2.2, by have := phi_ge A; omega⟩
theorem WA.b0 {A : SA} (h : WA A) : WB0 A := ⟨h.1, h.2.1, h.2.2.1, h.2.2.2.1, h.2.2.2.2.1⟩
theorem move_W {A : SA} (h : WB0 A) {d c : Nat} (hd : d < aN A) (hc : c < aN A) {m : Int} (hm : 0 ≤ m) : WB0 (sMove A d c m) := by
  refine ⟨h.1, h.2.1, fun i hi => ?_, ?_, fun i hi => ?_⟩
  · have q := h.2.2.1 i hi
    refine ⟨q.1, q.2.1, q.2.2.1, ?_, ?_⟩
    · show 0 ≤ updI (aD A) d (aD A d + m) i
      by_cases e : i = d
      · subst e; rw [updI_eq]; omega
      · rw [updI_ne e]; exact q.2.2.2.1
    · show 0 ≤ updI (aC A) c (aC A c + m) i
      by_cases e : i = c
      · subst e; rw [updI_eq]; omega
      · rw [updI_ne e]; exact q.2.2.2.2
  · show sumN (updI (aD A) d (aD A d + m)) (aN A) = sumN (updI (aC A) c (aC A c + m)) (aN A)
    rw [sumN_upd, sumN_upd, if_pos hd, if_pos hc, h.2.2.2.1]
    omega
  · have hi : aN A ≤ i := hi
    show updI (aD A) d (aD A d + m) i = 0 ∧ updI (aC A) c (aC A c + m) i = 0
    rw [updI_ne (by omega), updI_ne (by omega)]
    exact h.2.2.2.2 i hi
theorem sum_ind (d : Nat) (m : Int) : ∀ n, sumN (fun i => if i = d then m else 0) n = if d < n then m else 0 := by
  intro n
  induction n with
  | zero => rfl
  | succ n ih =>
    rw [sumN, ih]
    by_cases h1 : d < n
    · rw [if_pos h1, if_neg (by omega), if_pos (by omega)]; omega
    · rw [if_neg h1]
      by_cases h2 : n = d
      · rw [if_pos h2, if_pos (by omega)]; omega
      · rw [if_neg h2, if_neg (by omega)]; omega
theorem sum_move {A : SA} {d c : Nat} (hd : d < aN A) {m : Int} : sumN (aD (sMove A d c m)) (aN (sMove A d c m)) = sumN (aD A) (aN A) + m := by
  show sumN (updI (aD A) d (aD A d + m)) (aN A) = _
  rw [sumN_upd, if_pos hd]
  omega
theorem phi_move {A : SA} {d c : Nat} (hd : d < aN A) (hc : c < aN A) {m : Int} (hm : 0 ≤ m) : phi (sMove A d c m) ≤ phi A + 3 * m := by
  have h1 : sumN (oB (sMove A d c m)) (aN A) ≤ sumN (fun i => (oB A i + (if i = d then m else 0)) + (if i = c then m else 0)) (aN A) := by
    apply sumN_le
    intro i hi
    show (if aK A i = 105 ∨ aK A i = 101 then iabs (updI (aD A) d (aD A d + m) i - updI (aC A) c (aC A c + m) i) else 0) ≤ (if aK A i = 105 ∨ aK A i = 101 then iabs (aD A i - aC A i) else 0) + _ + _
    have e1 : updI (aD A) d (aD A d + m) i = aD A i + (if i = d then m else 0) := by
      by_cases e : i = d
      · subst e; rw [updI_eq, if_pos rfl]
      · rw [updI_ne e, if_neg e]; omega
    have e2 : updI (aC A) c (aC A c + m) i = aC A i + (if i = c then m else 0) := by
      by_cases e : i = c
      · subst e; rw [updI_eq, if_pos rfl]
      · rw [updI_ne e, if_neg e]; omega
    rw [e1, e2]
    have n1 : 0 ≤ (if i = d then m else 0) := by split <;> omega
    have n2 : 0 ≤ (if i = c then m else 0) := by split <;> omega
    generalize (if i = d then m else 0) = x at n1 ⊢
    generalize (if i = c then m else 0) = y at n2 ⊢
    split
    · unfold iabs
      split <;> split <;> omega
    · omega
  have h2 : sumN (fun i => (oB A i + (if i = d then m else 0)) + (if i = c then m else 0)) (aN A) = sumN (oB A) (aN A) + m + m := by
    rw [sumN_add (fun i => oB A i + (if i = d then m else 0)) (fun i => if i = c then m else 0), sumN_add (oB A) (fun i => if i = d then m else 0), sum_ind, sum_ind, if_pos hd, if_pos hc]
  have h3 := sum_move (A := A) (c := c) hd (m := m)
  unfold phi
  rw [h3]
  show _ + sumN (oB (sMove A d c m)) (aN A) ≤ _
  omega
theorem enter_W {J : SJ} {n t : Nat} (h : WJ J n t) (hj : jN J + 1 < 1000000) {d c a : Int} {m : Int} (hd : 0 ≤ d ∧ d < n) (hc : 0 ≤ c ∧ c < n) (ha : 0 ≤ a ∧ a < 268435456) (hm : 0 ≤ m ∧ m ≤ 2) : WJ (sEnterJ J d c a t m) n t := by
  refine ⟨hj, fun e h1 h2 => ?_⟩
  have h2 : e < jN J + 1 := h2
  have h1 : jN J + 1 - min (jN J + 1) 20 ≤ e := h1
  show 0 ≤ updI (jD J) (jN J) d e ∧ updI (jD J) (jN J) d e < n ∧ 0 ≤ updI (jC J) (jN J) c e ∧ updI (jC J) (jN J) c e < n ∧ 0 ≤ updI (jA J) (jN J) a e ∧ updI (jA J) (jN J) a e < 268435456 ∧ 0 ≤ updI (jH J) (jN J) t e ∧ updI (jH J) (jN J) t e ≤ t ∧ 0 ≤ updI (jM J) (jN J) m e ∧ updI (jM J) (jN J) m e ≤ 2
  by_cases e9 : e = jN J
  · subst e9
    rw [updI_eq, updI_eq, updI_eq, updI_eq, updI_eq]
    omega
  · rw [updI_ne e9, updI_ne e9, updI_ne e9, updI_ne e9, updI_ne e9]
    exact h.2 e (by unfold jK; omega) (by omega)
theorem WJ.later {J : SJ} {n n' t t' : Nat} (h : WJ J n t) (hn : n ≤ n') (ht : t ≤ t') : WJ J n' t' := ⟨h.1, fun e h1 h2 => by have := h.2 e h1 h2; omega⟩
theorem WP.more {P : SP} {n n' : Nat} (h : WP P n) (hn : n ≤ n') : WP P n' := ⟨h.1, fun x hx => by have := h.2 x hx; unfold WPe at this ⊢; omega⟩
/-- the prompts behind an hour -/
theorem live_W {P : SP} {n : Nat} (h : WP P n) : WP (live (P.map tick)) n := by
  refine ⟨?_, fun x hx => ?_⟩
  · have := List.length_filter_le (fun x : SPe => decide (0 < x.2.2.2.2.1)) (P.map tick)
    rw [List.length_map] at this
    have := h.1
    unfold live
    omega
  · obtain ⟨h1, h2⟩ := List.mem_filter.mp hx
    obtain ⟨y, h3, rfl⟩ := List.mem_map.mp h1
    have h4 := of_decide_eq_true h2
    have := h.2 y h3
    unfold WPe at this ⊢
    unfold tick at h4 ⊢
    split
    · rename_i hc
      rw [if_pos hc] at h4
      simp only at h4 ⊢
      omega
    · rename_i hc
      rw [if_neg hc] at h4
      simp only at h4 ⊢
      omega
theorem due_W {n t : Nat} : ∀ (P : SP) (A : SA) (J : SJ), (∀ x ∈ P, WPe n x) → WB0 A → aN A = n → WJ J n t → jN J + P.length < 1000000 → WB0 (duF t (A, J) P).1 ∧ WJ (duF t (A, J) P).2 n t ∧ phi (duF t (A, J) P).1 ≤ phi A + 2997 * P.length := by
  intro P
  induction P with
  | nil => intro A J _ h2 _ h3 _; exact ⟨h2, h3, by show phi A ≤ phi A + 2997 * ((0 : Nat) : Int); omega⟩
  | cons x r ih =>
    intro A J h1 h2 h3 h4 h5
    rw [List.length_cons] at h5
    have q := h1 x List.mem_cons_self
    unfold WPe at q
    rw [duF]
    unfold duE
    have hr : ∀ y ∈ r, WPe n y := fun y hy => h1 y (List.mem_cons_of_mem _ hy)
    by_cases hc : x.2.2.2.2.2 = 1
    · rw [if_pos hc]
      dsimp only
      have p1 := move_W h2 (d := x.1.toNat) (c := x.2.1.toNat) (by omega) (by omega) (m := x.2.2.1) (by omega)
      have p2 := enter_W h4 (by omega) (d := x.1) (c := x.2.1) (a := x.2.2.1) (m := 0) (by omega) (by omega) (by omega) (by omega)
      obtain ⟨a1, a2, a3⟩ := ih (sMove A x.1.toNat x.2.1.toNat x.2.2.1) (sEnterJ J x.1 x.2.1 x.2.2.1 t 0) hr p1 h3 p2 (by show jN J + 1 + r.length < _; omega)
      have p3 := phi_move (A := A) (d := x.1.toNat) (c := x.2.1.toNat) (by omega) (by omega) (m := x.2.2.1) (by omega)
      refine ⟨a1, a2, ?_⟩
      rw [List.length_cons]
      omega
    · rw [if_neg hc]
      obtain ⟨a1, a2, a3⟩ := ih A J hr h2 h3 h4 (by omega)
      refine ⟨a1, a2, ?_⟩
      rw [List.length_cons]
      omega
def WG (S : SG) : Prop := WB0 (gA S) ∧ WJ (gJ S) (aN (gA S)) (gH S) ∧ WP (gP S) (aN (gA S)) ∧ WL (gL S) ∧ WB (gB S) ∧ gH S < 1000000 ∧ gC S < 1000000 ∧ phi (gA S) < 268435456
theorem WG.wa {S : SG} (h : WG S) : WA (gA S) := WA.of h.1 h.2.2.2.2.2.2.2
def sHour (S : SG) : SG := ((duF (gH S + 1) (gA S, gJ S) (gP S)).1, (duF (gH S + 1) (gA S, gJ S) (gP S)).2, live ((gP S).map tick), gL S, gB S, gH S + 1, gC S)
def sHours : Nat → SG → SG
  | 0, S => S
  | k + 1, S => sHour (sHours k S)
def sHoursC : Nat → SG → Nat
  | 0, _ => 0
  | k + 1, S => sHoursC k S + duC (gP (sHours k S))
theorem hour_W {S : SG} (h : WG S) (h1 : phi (gA S) + 17982 < 268435456) (h2 : jN (gJ S) + 6 < 1000000) (h3 : gH S + 1 < 1000000) : WG (sHour S) ∧ phi (gA (sHour S)) ≤ phi (gA S) + 17982 ∧ jN (gJ (sHour S)) ≤ jN (gJ S) + 6 := by
  obtain ⟨a1, a2, a3, a4, a5, a6, a7, a8⟩ := h
  have hl := a3.1
  obtain ⟨b1, b2, b3⟩ := due_W (t := gH S + 1) (gP S) (gA S) (gJ S) (fun x hx => (a3.2 x hx).1) a1 rfl (a2.later (Nat.le_refl _) (by omega)) (by omega)
  obtain ⟨n1, n2⟩ := duF_n (gH S + 1) (gP S) (gA S, gJ S)
  have n3 := duC_le (gP S)
  have n1' : aN (gA (sHour S)) = aN (gA S) := n1
  have b3' : phi (gA (sHour S)) ≤ phi (gA S) + 2997 * (gP S).length := b3
  have n2' : jN (gJ (sHour S)) = jN (gJ S) + duC (gP S) := n2
  refine ⟨⟨b1, ?_, ?_, a4, a5, h3, a7, by omega⟩, by omega, by omega⟩
  · rw [n1']; exact b2
  · rw [n1']; exact live_W a3
theorem hours_W {S : SG} (h : WG S) : ∀ k : Nat, phi (gA S) + 17982 * k < 268435456 → jN (gJ S) + 6 * k < 1000000 → gH S + k < 1000000 → WG (sHours k S) ∧ phi (gA (sHours k S)) ≤ phi (gA S) + 17982 * k ∧ jN (gJ (sHours k S)) ≤ jN (gJ S) + 6 * k ∧ gH (sHours k S) = gH S + k := by
  intro k
  induction k with
  | zero => intro _ _ _; exact ⟨h, by show phi (gA S) ≤ phi (gA S) + 17982 * ((0 : Nat) : Int); omega, Nat.le_refl _, rfl⟩
  | succ k ih =>
    intro h1 h2 h3
    obtain ⟨a1, a2, a3, a4⟩ := ih (by omega) (by omega) (by omega)
    obtain ⟨b1, b2, b3⟩ := hour_W a1 (by omega) (by omega) (by omega)
    refine ⟨b1, ?_, ?_, ?_⟩
    · show phi (gA (sHour (sHours k S))) ≤ _; omega
    · show jN (gJ (sHour (sHours k S))) ≤ _; omega
    · show gH (sHours k S) + 1 = _; omega
