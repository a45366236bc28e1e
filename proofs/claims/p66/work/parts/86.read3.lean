/-! ===== readers: matches, ranks, consistency ===== -/
def RX (cs : List Nat) (c : Option (Nat × Int32 × ThlS)) (m : Option (Int32 × MS)) (t : ThlS) (s : MS) : Prop := ∃ q v v' u, c = some (q, v, Thls3 t u) ∧ m = some (v', Ms12 s (iI (lawC cs q : Int))) ∧ (q = 0 ∨ q ∈ cs) ∧ (q = 0 → v = v')
theorem rx_no {cs : List Nat} {c : Option (Nat × Int32 × ThlS)} {m : Option (Int32 × MS)} {t : ThlS} {s : MS} (q : Nat) (v v' : Int32) (u : MatS) (hc : c = some (q, v, Thls3 t u)) (hq : q ≠ 0) (hm : q ∈ cs) (h : m = some (v', Ms12 s (iI (lawC cs q : Int)))) : RX cs c m t s := ⟨q, v, v', u, hc, h, .inr hm, fun e => absurd e hq⟩
theorem rx_ok {cs : List Nat} {c : Option (Nat × Int32 × ThlS)} {m : Option (Int32 × MS)} {t : ThlS} {s : MS} (v : Int32) (u : MatS) (hc : c = some (0, v, Thls3 t u)) (h : m = some (v, Ms12 s (iI 0))) : RX cs c m t s := ⟨0, v, v, u, hc, h, .inl rfl, fun _ => rfl⟩
section RD3
variable {N : Nat} {t : ThlS} {s : MS} {S : SG}
theorem c_checkAmt (N : Nat) {m : Int} (hm : -2147483648 ≤ m ∧ m < 2147483648) : fX12_checkAmount N (iI m) = some (if 1 ≤ m ∧ m ≤ 999 then 0 else 3) := by
  unfold fX12_checkAmount
  rw [show (1 : Int32) = iI 1 from rfl, show (999 : Int32) = iI 999 from rfl, c_within N hm (by omega) (by omega), xcall_s]
  by_cases h : 1 ≤ m ∧ m ≤ 999
  · rw [decide_eq_true h, if_pos h]; rfl
  · rw [decide_eq_false h, if_neg h]; rfl
theorem chS_lt (w : WG S) (m : Int) : chS S m < 1024 := by
  have h1 := choN_lt m (gB S).1 (2 ^ (gB S).1.length)
  have h2 : 2 ^ (gB S).1.length ≤ 2 ^ 10 := Nat.pow_le_pow_right (by omega) w.fr.2.2.2
  unfold chS
  omega
/-! ranks -/
def rk (A : SA) (m i : Nat) : Int := sumN (fun o => if richB A o i = true then 1 else 0) m
theorem rich_irr (A : SA) (i : Nat) : richB A i i = false := by unfold richB; simp
theorem rich_tot (A : SA) {i j : Nat} (h : i ≠ j) (h2 : richB A i j = false) : richB A j i = true := by
  unfold richB at *
  simp only [Bool.or_eq_true, Bool.and_eq_true, decide_eq_true_eq, Bool.or_eq_false_iff, Bool.and_eq_false_iff, decide_eq_false_iff_not] at *
  omega
theorem rich_tr (A : SA) {i j k : Nat} (h : richB A i j = true) (h2 : richB A j k = true) : richB A i k = true := by
  unfold richB at *
  simp only [Bool.or_eq_true, Bool.and_eq_true, decide_eq_true_eq] at *
  omega
theorem rk_le (A : SA) (m : Nat) {i j : Nat} (h : richB A i j = true) : rk A m i ≤ rk A m j := sumN_le m fun o _ => by
  by_cases h2 : richB A o i = true
  · rw [if_pos h2, if_pos (rich_tr A h2 h)]; omega
  · rw [if_neg h2]; split <;> omega
theorem rk_lt (A : SA) {m i j : Nat} (hi : i < m) (h : richB A i j = true) : rk A m i + 1 ≤ rk A m j := by
  have e := sum_ind i 1 m
  rw [if_pos hi] at e
  have h3 := sumN_add (fun o => if richB A o i = true then 1 else 0) (fun o => if o = i then (1 : Int) else 0) m
  have h4 : sumN (fun o => (if richB A o i = true then 1 else 0) + (if o = i then (1 : Int) else 0)) m ≤ rk A m j := sumN_le m fun o _ => by
    by_cases h2 : o = i
    · subst h2
      rw [if_pos rfl, if_pos h, rich_irr]
      decide
    · rw [if_neg h2]
      by_cases h5 : richB A o i = true
      · rw [if_pos h5, if_pos (rich_tr A h5 h)]; omega
      · rw [if_neg h5]; split <;> omega
  unfold rk at *
  omega
theorem rk_rng (A : SA) {m : Nat} : ∀ i, 0 ≤ rk A m i ∧ rk A m i ≤ m := fun i => by
  refine ⟨sumN_nonneg _ fun o _ => by split <;> omega, ?_⟩
  have h := sumN_le (f := fun o => if richB A o i = true then 1 else 0) (g := fun _ => (1 : Int)) m fun o _ => by split <;> omega
  rw [sumN_const _ 1 m (fun _ _ => rfl)] at h
  unfold rk
  omega
theorem rk_lt_n (A : SA) {m i : Nat} (hi : i < m) : rk A m i ≤ m - 1 := by
  have e := sum_ind i 1 m
  rw [if_pos hi] at e
  have h3 := sumN_add (fun o => if richB A o i = true then 1 else 0) (fun o => if o = i then (1 : Int) else 0) m
  have h4 := sumN_le (f := fun o => (if richB A o i = true then 1 else 0) + (if o = i then (1 : Int) else 0)) (g := fun _ => (1 : Int)) m fun o _ => by
    by_cases h2 : o = i
    · subst h2
      rw [if_pos rfl, rich_irr]
      decide
    · rw [if_neg h2]; split <;> omega
  rw [sumN_const _ 1 m (fun _ _ => rfl)] at h4
  unfold rk
  omega
theorem rk_onto (A : SA) : ∀ m : Nat, ∀ z : Int, 0 ≤ z → z < m → ∃ i, i < m ∧ rk A m i = z := by
  intro m
  induction m with
  | zero => intro z h1 h2; omega
  | succ m ih =>
    intro z h1 h2
    have e : ∀ i, rk A (m + 1) i = rk A m i + (if richB A m i = true then 1 else 0) := fun i => rfl
    have hm := e m
    rw [rich_irr, if_neg (by decide)] at hm
    have hr := rk_rng A (m := m) m
    by_cases h3 : z = rk A m m
    · exact ⟨m, by omega, by omega⟩
    · by_cases h4 : z < rk A m m
      · obtain ⟨i, i1, i2⟩ := ih z h1 (by omega)
        refine ⟨i, by omega, ?_⟩
        rw [e i]
        by_cases h5 : richB A m i = true
        · have := rk_le A m h5
          omega
        · rw [if_neg h5]; omega
      · obtain ⟨i, i1, i2⟩ := ih (z - 1) (by omega) (by omega)
        refine ⟨i, by omega, ?_⟩
        rw [e i]
        by_cases h5 : richB A m i = true
        · rw [if_pos h5]; omega
        · have h6 := rich_tot A (i := m) (j := i) (by omega) (by simpa using h5)
          have := rk_lt A i1 h6
          omega
theorem least_of {p : Nat → Prop} {n : Nat} : ∀ i : Nat, i < n → p i → ∃ i, i < n ∧ p i ∧ ∀ j, j < i → ¬ p j := by
  intro i
  induction i using Nat.strongRecOn with
  | _ i ih =>
    intro hi hp
    by_cases h : ∃ j, j < i ∧ p j
    · obtain ⟨j, j1, j2⟩ := h
      exact ih j j1 (by omega) j2
    · exact ⟨i, hi, hp, fun j hj hpj => h ⟨j, hj, hpj⟩⟩
end RD3
