/-! ===== a call that reads, held against the reference ===== -/
def R0 {α : Type} (c : Option α) (m : Option (α × MS)) (s : MS) : Prop := ∃ v, c = some v ∧ m = some (v, Ms12 s (iI 0))
def RD {α : Type} (cs : List Nat) (c : Option (Nat × α)) (m : Option (α × MS)) (s : MS) : Prop := ∃ q v v', c = some (q, v) ∧ m = some (v', Ms12 s (iI (lawC cs q : Int))) ∧ (q = 0 ∨ q ∈ cs) ∧ (q = 0 → v = v')
theorem rd_no {α : Type} {cs : List Nat} {c : Option (Nat × α)} {m : Option (α × MS)} {s : MS} (q : Nat) (v v' : α) (hc : c = some (q, v)) (hq : q ≠ 0) (hm : q ∈ cs) (h : m = some (v', Ms12 s (iI (lawC cs q : Int)))) : RD cs c m s := ⟨q, v, v', hc, h, .inr hm, fun e => absurd e hq⟩
theorem rd_ok {α : Type} {cs : List Nat} {c : Option (Nat × α)} {m : Option (α × MS)} {s : MS} (v : α) (hc : c = some (0, v)) (h : m = some (v, Ms12 s (iI 0))) : RD cs c m s := ⟨0, v, v, hc, h, .inl rfl, fun _ => rfl⟩
theorem abs_sum {A : SA} (w : WB0 A) : sumN (fun i => iabs (aD A i - aC A i)) (aN A) ≤ 2 * nbS A := by
  have hn := w.1
  have q := sum_but (fun i => aD A i - aC A i) 3 (aN A)
  rw [sumN_sub (aD A) (aC A), w.2.2.2.1, Int.sub_self, if_pos (by omega)] at q
  have e : sumN (fun i => if i = 3 then 0 else iabs (aD A i - aC A i)) (aN A) = nbS A := rfl
  rw [e] at q
  have e2 : sumN (fun i => iabs (aD A i - aC A i)) (aN A) = sumN (fun i => nb A i + (if i = 3 then iabs (aD A 3 - aC A 3) else 0)) (aN A) := sumN_congr _ fun i _ => by
    unfold nb
    by_cases h : i = 3
    · subst h; rw [if_pos rfl, if_pos rfl]; omega
    · rw [if_neg h, if_neg h]; omega
  rw [e2, sumN_add (nb A), sum_ind, if_pos (by omega)]
  have e3 : iabs (aD A 3 - aC A 3) = iabs (0 - (aD A 3 - aC A 3)) := by unfold iabs; split <;> split <;> omega
  have e4 : sumN (fun i => nb A i) (aN A) = nbS A := rfl
  rw [e3, e4]
  omega
theorem sum_bd {f g : Nat → Int} (n : Nat) (h : ∀ i, i < n → -(g i) ≤ f i ∧ f i ≤ g i) : -(sumN g n) ≤ sumN f n ∧ sumN f n ≤ sumN g n := by
  induction n with
  | zero => exact ⟨Int.le_refl _, Int.le_refl _⟩
  | succ n ih =>
    have := ih fun i hi => h i (by omega)
    have := h n (by omega)
    rw [sumN, sumN]
    omega
theorem WG.nb {S : SG} (w : WG S) : nbS (gA S) < 268435456 := by
  have := (psi_nn w).1
  have := w.2.2.2.2.2.2.2.1
  omega
theorem tree_rng {S : SG} (w : WG S) (t : Nat) : -2147483648 ≤ sTreeSum (gA S) t ∧ sTreeSum (gA S) t < 2147483648 := by
  have h := abs_sum w.1
  have h2 := w.nb
  have := sum_bd (f := fun k => if below (gA S) t k = true then bal (gA S) k else 0) (g := fun i => iabs (aD (gA S) i - aC (gA S) i)) (aN (gA S)) (fun i _ => by
    have h3 := iabs_le (aD (gA S) i - aC (gA S) i)
    have h4 := iabs_nn (aD (gA S) i - aC (gA S) i)
    unfold bal
    split
    · split <;> omega
    · omega)
  unfold sTreeSum
  omega
theorem gain_rng {S : SG} (w : WG S) : -2147483648 ≤ sumN (gainAt (gA S)) (aN (gA S)) ∧ sumN (gainAt (gA S)) (aN (gA S)) < 2147483648 := by
  have h := abs_sum w.1
  have h2 := w.nb
  have := sum_bd (f := gainAt (gA S)) (g := fun i => iabs (aD (gA S) i - aC (gA S) i)) (aN (gA S)) (fun i _ => by
    have h3 := iabs_le (aD (gA S) i - aC (gA S) i)
    have h4 := iabs_nn (aD (gA S) i - aC (gA S) i)
    unfold gainAt
    split <;> omega)
  omega
section RDs
variable {N : Nat} {t : ThlS} {s : MS} {S : SG}
theorem deb_rng {S : SG} (w : WG S) : 0 ≤ sumN (aD (gA S)) (aN (gA S)) ∧ sumN (aD (gA S)) (aN (gA S)) < 2147483648 := ⟨sumN_nonneg _ fun i hi => (w.wa.at hi).2.2.2.1, w.wa.2.2.2.2.2.1⟩
/-! accounts -/
theorem c_checkAcc (N : Nat) (hR : RBo t.1 S) (w : WG S) {z : Int} (hz : -2147483648 ≤ z ∧ z < 2147483648) : fX12_checkAccount N (iI z) t = some (if 0 ≤ z ∧ z < aN (gA S) then 0 else 1) := by
  unfold fX12_checkAccount
  rw [c_has N hR.1 w.fr.1 hz, xcall_s]
  by_cases h : 0 ≤ z ∧ z < aN (gA S)
  · rw [decide_eq_true h, if_pos h]; rfl
  · rw [decide_eq_false h, if_neg h]; rfl
theorem k_char {k : Int} (h : isKd k) : ((Int32.toUInt32 (iI k)) % 65536).toInt32 = iI k := by
  rcases h with h | h | h | h <;> rw [h] <;> decide
/-! entries -/
theorem c_checkEnt (N : Nat) (hR : RBo t.1 S) (w : WG S) {z : Int} (hz : -2147483648 ≤ z ∧ z < 2147483648) : fX12_checkEntry N (iI z) t = some (if (jN (gJ S) : Int) - jK (gJ S) ≤ z ∧ z < jN (gJ S) then 0 else 2) := by
  unfold fX12_checkEntry
  rw [c_jhas N hR.2.1 w.2.1.1 hz, xcall_s]
  by_cases h : (jN (gJ S) : Int) - jK (gJ S) ≤ z ∧ z < jN (gJ S)
  · rw [decide_eq_true h, if_pos h]; rfl
  · rw [decide_eq_false h, if_neg h]; rfl
theorem ent_at (hM : GG s.1 S) {z : Int} (h : (jN (gJ S) : Int) - jK (gJ S) ≤ z ∧ z < jN (gJ S)) : s.1 (57 + (z.toNat - (jN (gJ S) - jK (gJ S)))) = iI (jD (gJ S) z.toNat) ∧ s.1 (77 + (z.toNat - (jN (gJ S) - jK (gJ S)))) = iI (jC (gJ S) z.toNat) ∧ s.1 (97 + (z.toNat - (jN (gJ S) - jK (gJ S)))) = iI (jA (gJ S) z.toNat) ∧ s.1 (117 + (z.toNat - (jN (gJ S) - jK (gJ S)))) = iI (jH (gJ S) z.toNat) ∧ s.1 (137 + (z.toNat - (jN (gJ S) - jK (gJ S)))) = iI (jM (gJ S) z.toNat) := by
  have hk2 : jK (gJ S) ≤ jN (gJ S) := by unfold jK; omega
  have q := hM.2.1.2.2 (z.toNat - (jN (gJ S) - jK (gJ S))) (by omega)
  rw [show jN (gJ S) - jK (gJ S) + (z.toNat - (jN (gJ S) - jK (gJ S))) = z.toNat by omega] at q
  exact q
end RDs
