/-! ===== the budget: what so many changes can have moved ===== -/
def bS (a b : Nat) : Nat := 500 + 8991 * (a + b) + 500 * b + 17982 * (a * b)
def BD (a b : Nat) (S : SG) : Prop := psi S ≤ 500 + 17982 * (a : Int) ∧ sdp S ≤ (bS a b : Int) ∧ jN (gJ S) ≤ 144 * (a + b) ∧ gH S ≤ 24 * (a + b) ∧ gC S ≤ a + b ∧ (gB S).2 ≤ a + b
def WS (a b : Nat) (S : SG) : Prop := WG S ∧ BD a b S
theorem ab_all : (List.range 513).all (fun a => decide (a * (512 - a) ≤ 65536)) = true := by decide +kernel
theorem ab_le {a b : Nat} (h : a + b ≤ 512) : a * b ≤ 65536 := by
  have h1 := of_decide_eq_true (List.all_eq_true.mp ab_all a (List.mem_range.mpr (by omega)))
  exact Nat.le_trans (Nat.mul_le_mul_left a (by omega)) h1
theorem BD.more {a b a' b' : Nat} {S : SG} (h : BD a b S) (ha : a ≤ a') (hb : b ≤ b') : BD a' b' S := by
  obtain ⟨h1, h2, h3, h4, h5, h6⟩ := h
  have := Nat.mul_le_mul ha hb
  refine ⟨by omega, ?_, by omega, by omega, by omega, by omega⟩
  unfold bS at h2 ⊢
  omega
theorem BD.rng {a b : Nat} {S : SG} (h : BD a b S) (hu : a + b ≤ 512) : psi S < 9207300 ∧ sdp S < 1183500000 ∧ jN (gJ S) ≤ 73728 ∧ gH S ≤ 12288 ∧ gC S ≤ 512 ∧ (gB S).2 ≤ 512 := by
  obtain ⟨h1, h2, h3, h4, h5, h6⟩ := h
  have := ab_le hu
  unfold bS at h2
  refine ⟨by omega, by omega, by omega, by omega, by omega, by omega⟩
theorem BD.A {a b : Nat} {S S' : SG} (h : BD a b S) (h1 : psi S' ≤ psi S + 17982) (h2 : sdp S' ≤ sdp S + 8991) (h3 : jN (gJ S') ≤ jN (gJ S) + 144) (h4 : gH S' ≤ gH S + 24) (h5 : gC S' ≤ gC S + 1) (h6 : (gB S').2 ≤ (gB S).2 + 1) : BD (a + 1) b S' := by
  obtain ⟨g1, g2, g3, g4, g5, g6⟩ := h
  refine ⟨by omega, ?_, by omega, by omega, by omega, by omega⟩
  unfold bS at g2 ⊢
  have e : (a + 1) * b = a * b + b := Nat.succ_mul a b
  rw [e]
  omega
theorem BD.B {a b : Nat} {S S' : SG} (h : BD a b S) (h1 : psi S' ≤ psi S) (h2 : sdp S' ≤ sdp S + psi S) (h3 : jN (gJ S') ≤ jN (gJ S) + 144) (h4 : gH S' ≤ gH S + 24) (h5 : gC S' ≤ gC S + 1) (h6 : (gB S').2 ≤ (gB S).2 + 1) : BD a (b + 1) S' := by
  obtain ⟨g1, g2, g3, g4, g5, g6⟩ := h
  refine ⟨by omega, ?_, by omega, by omega, by omega, by omega⟩
  unfold bS at g2 ⊢
  have e : a * (b + 1) = a * b + a := Nat.mul_succ a b
  rw [e]
  omega
def NX (a b : Nat) (S' : SG) : Prop := ∃ a' b', a' + b' = a + b + 1 ∧ a ≤ a' ∧ b ≤ b' ∧ WS a' b' S'
section BU
variable {a b : Nat} {S : SG}
theorem nx_A {S' : SG} (h : BD a b S) (hw : WG S') (h1 : psi S' ≤ psi S + 17982) (h2 : sdp S' ≤ sdp S + 8991) (h3 : jN (gJ S') ≤ jN (gJ S) + 144) (h4 : gH S' ≤ gH S + 24) (h5 : gC S' ≤ gC S + 1) (h6 : (gB S').2 ≤ (gB S).2 + 1) : NX a b S' := ⟨a + 1, b, by omega, by omega, by omega, hw, h.A h1 h2 h3 h4 h5 h6⟩
theorem psi_nn {S : SG} (h : WG S) : nbS (gA S) ≤ psi S ∧ 0 ≤ nbS (gA S) ∧ bigE (gJ S) ≤ psi S := by
  have h1 := h.pv
  have h2 := bigE_nn (gJ S)
  have h3 := nbS_nn (gA S)
  unfold psi
  omega
theorem small_W (h : WS a b S) (hu : a + b + 1 ≤ 512) {d c : Nat} (hd : d < aN (gA S)) (hc : c < aN (gA S)) {m : Int} (hm : 0 ≤ m ∧ m ≤ 999) : WG (sEnt S d c m 0) ∧ psi (sEnt S d c m 0) ≤ psi S + 2 * m ∧ sdp (sEnt S d c m 0) = sdp S + m := by
  obtain ⟨w, bd⟩ := h
  obtain ⟨g1, g2, g3, g4, g5, g6⟩ := bd.rng (by omega)
  have e1 := ent_psi hd hc hm.1 (mk := 0)
  have e2 := ent_sdp (c := c) hd (m := m) (mk := 0)
  have e3 : psi (sEnt S d c m 0) ≤ psi S + 2 * m := by
    rw [if_neg (show ¬ ((0 : Int) = 0 ∧ 999 < m) by omega)] at e1
    revert e1
    split <;> split <;> intro e1 <;> omega
  exact ⟨ent_W w hd hc (by omega) (by decide) (fun _ h9 => absurd h9 (by omega)) (by omega) (by omega) (by omega), e3, e2⟩
theorem nx_post (h : WS a b S) (hu : a + b + 1 ≤ 512) {d c : Nat} (hd : d < aN (gA S)) (hc : c < aN (gA S)) {m : Int} (hm : 1 ≤ m ∧ m ≤ 999) : NX a b (sEnt S d c m 0) := by
  obtain ⟨e1, e2, e3⟩ := small_W h hu hd hc (m := m) (by omega)
  exact nx_A h.2 e1 (by omega) (by omega) (by show jN (gJ S) + 1 ≤ _; omega) (Nat.le_add_right _ _) (Nat.le_succ _) (Nat.le_succ _)
theorem nx_rev (h : WS a b S) (hu : a + b + 1 ≤ 512) {e : Nat} (h1 : jN (gJ S) - jK (gJ S) ≤ e) (h2 : e < jN (gJ S)) (h3 : jM (gJ S) e = 0) : NX a b (sRev S e) := by
  obtain ⟨w, bd⟩ := h
  obtain ⟨g1, g2, g3, g4, g5, g6⟩ := bd.rng (by omega)
  obtain ⟨m1, m2, m3⟩ := mark_W w h1 h2
  obtain ⟨q1, q2, q3, q4, q5, q6, q7, q8, q9, q10, q11⟩ := w.2.1.2 e h1 h2
  have hge := eW_ge h1 h2
  obtain ⟨p1, p2, p3⟩ := psi_nn w
  have hn := w.1.1
  have e1 := ent_psi (S := wJ S (sMark (gJ S) e 1)) (d := (jC (gJ S) e).toNat) (c := (jD (gJ S) e).toNat) (by show _ < aN (gA S); omega) (by show _ < aN (gA S); omega) q5 (mk := 2)
  have e2 := ent_sdp (S := wJ S (sMark (gJ S) e 1)) (d := (jC (gJ S) e).toNat) (c := (jD (gJ S) e).toNat) (by show _ < aN (gA S); omega) (m := jA (gJ S) e) (mk := 2)
  rw [if_neg (show ¬ ((2 : Int) = 0 ∧ 999 < jA (gJ S) e) by omega)] at e1
  have hW : ∀ x : Int, psi (sRev S e) ≤ x → x < 268435456 → sdp (sRev S e) < 2147483648 → WG (sRev S e) := fun x hx1 hx2 hx3 => by
    have e2' : sdp (sRev S e) = sdp (wJ S (sMark (gJ S) e 1)) + jA (gJ S) e := e2
    refine ent_W m1 (by show _ < aN (gA S); omega) (by show _ < aN (gA S); omega) ⟨q5, q6⟩ (by decide) (fun h => absurd h (by decide)) (by show jN (gJ S) + 1 < _; omega) (show psi (sRev S e) < _ by omega) (by omega)
  have e1' : psi (sRev S e) ≤ psi (wJ S (sMark (gJ S) e 1)) + (if (jC (gJ S) e).toNat = 3 then 0 else jA (gJ S) e) + (if (jD (gJ S) e).toNat = 3 then 0 else jA (gJ S) e) + 0 := e1
  have e2' : sdp (sRev S e) = sdp (wJ S (sMark (gJ S) e 1)) + jA (gJ S) e := e2
  by_cases hb : 999 < jA (gJ S) e
  · have he : eW (gJ S) e = jA (gJ S) e := by unfold eW; rw [if_pos ⟨h3, hb⟩]
    have h3' := q11 h3 hb
    have e4 : psi (sRev S e) ≤ psi S := by
      revert e1'
      split <;> split <;> intro e1' <;> omega
    refine ⟨a, b + 1, by omega, Nat.le_refl _, by omega, hW (psi S) e4 (by omega) (by omega), bd.B e4 (by omega) (by show jN (gJ S) + 1 ≤ _; omega) (Nat.le_add_right _ _) (Nat.le_succ _) (Nat.le_succ _)⟩
  · have he : 0 ≤ eW (gJ S) e := eW_nn _ _
    have e4 : psi (sRev S e) ≤ psi S + 1998 := by
      revert e1'
      split <;> split <;> intro e1' <;> omega
    exact nx_A bd (hW (psi S + 1998) e4 (by omega) (by omega)) (by omega) (by omega) (by show jN (gJ S) + 1 ≤ _; omega) (Nat.le_add_right _ _) (Nat.le_succ _) (Nat.le_succ _)
theorem pV_app (P : SP) (x : SPe) : pV (P ++ [x]) = pV P + x.2.2.2.2.1 * x.2.2.1 := by
  induction P with
  | nil => show _ + 0 = 0 + _; omega
  | cons y r ih => show _ + pV (r ++ [x]) = _ + pV r + _; rw [ih]; omega
theorem pV_erase {P : SP} {n : Nat} (h : ∀ x ∈ P, WPe n x) : ∀ i, pV (P.eraseIdx i) ≤ pV P := by
  induction P with
  | nil => intro i; exact Int.le_refl _
  | cons y r ih =>
    intro i
    have q := h y List.mem_cons_self
    unfold WPe at q
    have b0 : 0 ≤ y.2.2.2.2.1 * y.2.2.1 := Int.mul_nonneg (by omega) (by omega)
    cases i with
    | zero => show pV r ≤ _ + pV r; omega
    | succ i =>
      have := ih (fun x hx => h x (List.mem_cons_of_mem _ hx)) i
      show _ + pV (r.eraseIdx i) ≤ _ + pV r
      omega
theorem nx_prompt (h : WS a b S) (hu : a + b + 1 ≤ 512) (hl : (gP S).length < 6) {x : SPe} (hx : WPe (aN (gA S)) x ∧ 1 ≤ x.2.2.2.2.1) : NX a b (wP S (gP S ++ [x])) := by
  obtain ⟨w, bd⟩ := h
  obtain ⟨g1, g2, g3, g4, g5, g6⟩ := bd.rng (by omega)
  have hx0 := hx.1
  unfold WPe at hx0
  have b0 : 0 ≤ x.2.2.2.2.1 * x.2.2.1 := Int.mul_nonneg (by omega) (by omega)
  have b1 : x.2.2.2.2.1 * x.2.2.1 ≤ 9 * 999 := Int.mul_le_mul (by omega) (by omega) (by omega) (by omega)
  have e := pV_app (gP S) x
  have e1 : psi (wP S (gP S ++ [x])) = psi S + 2 * (x.2.2.2.2.1 * x.2.2.1) := by
    show nbS (gA S) + bigE (gJ S) + 2 * pV (gP S ++ [x]) = nbS (gA S) + bigE (gJ S) + 2 * pV (gP S) + _
    omega
  have e2 : sdp (wP S (gP S ++ [x])) = sdp S + x.2.2.2.2.1 * x.2.2.1 := by
    show sumN (aD (gA S)) (aN (gA S)) + pV (gP S ++ [x]) = sumN (aD (gA S)) (aN (gA S)) + pV (gP S) + _
    omega
  obtain ⟨a1, a2, a3, a4, a5, a6, a7, a8, a9⟩ := w
  refine nx_A bd ⟨a1, a2, ⟨by show (gP S ++ [x]).length ≤ 6; rw [List.length_append]; show (gP S).length + 1 ≤ 6; omega, fun y hy => ?_⟩, a4, a5, a6, a7, by omega, by omega⟩ (by omega) (by omega) (Nat.le_add_right _ _) (Nat.le_add_right _ _) (Nat.le_succ _) (Nat.le_succ _)
  rcases List.mem_append.mp hy with h9 | h9
  · exact a3.2 y h9
  · simp at h9; subst h9; exact hx
theorem nx_cancel (h : WS a b S) (hu : a + b + 1 ≤ 512) (i : Nat) : NX a b (wP S ((gP S).eraseIdx i)) := by
  obtain ⟨w, bd⟩ := h
  obtain ⟨g1, g2, g3, g4, g5, g6⟩ := bd.rng (by omega)
  have e := pV_erase (fun x hx => (w.2.2.1.2 x hx).1) i
  have e1 : psi (wP S ((gP S).eraseIdx i)) ≤ psi S := by
    show nbS (gA S) + bigE (gJ S) + 2 * pV ((gP S).eraseIdx i) ≤ nbS (gA S) + bigE (gJ S) + 2 * pV (gP S)
    omega
  have e2 : sdp (wP S ((gP S).eraseIdx i)) ≤ sdp S := by
    show sumN (aD (gA S)) (aN (gA S)) + pV ((gP S).eraseIdx i) ≤ sumN (aD (gA S)) (aN (gA S)) + pV (gP S)
    omega
  obtain ⟨a1, a2, a3, a4, a5, a6, a7, a8, a9⟩ := w
  refine nx_A bd ⟨a1, a2, ⟨?_, fun y hy => a3.2 y (List.mem_of_mem_eraseIdx hy)⟩, a4, a5, a6, a7, by omega, by omega⟩ (by omega) (by omega) (Nat.le_add_right _ _) (Nat.le_add_right _ _) (Nat.le_succ _) (Nat.le_succ _)
  have := List.length_eraseIdx_le (gP S) i
  have := a3.1
  show ((gP S).eraseIdx i).length ≤ 6
  omega
theorem nx_pass (h : WS a b S) (hu : a + b + 1 ≤ 512) {k : Nat} (hk : k ≤ 24) : NX a b (sHours k S) := by
  obtain ⟨w, bd⟩ := h
  obtain ⟨g1, g2, g3, g4, g5, g6⟩ := bd.rng (by omega)
  obtain ⟨w1, w2, w5, w3, w4⟩ := hours_W w k (by omega) (by omega)
  have e : ∀ k, gC (sHours k S) = gC S ∧ gB (sHours k S) = gB S := by
    intro k
    induction k with
    | zero => exact ⟨rfl, rfl⟩
    | succ k ih => exact ih
  exact nx_A bd w1 (by omega) (by omega) (by omega) (by omega) (by rw [(e k).1]; omega) (by rw [(e k).2]; omega)
theorem nx_buy (h : WS a b S) (hu : a + b + 1 ≤ 512) (hl : (gL S).length < 8) {k p : Int} (hk : 1 ≤ k ∧ k ≤ 20) (hp : 1 ≤ p ∧ p ≤ 40) : NX a b (sBuy S k p) := by
  obtain ⟨w, bd⟩ := h
  have hn := w.1.1
  have m0 : 0 ≤ k * p := Int.mul_nonneg (by omega) (by omega)
  have m1 : k * p ≤ 20 * 40 := Int.mul_le_mul (by omega) (by omega) (by omega) (by omega)
  have hW := wL_W w (L := gL S ++ [(k, p)]) ⟨by rw [List.length_append]; show (gL S).length + 1 ≤ 8; omega, fun x hx => by
    rcases List.mem_append.mp hx with h9 | h9
    · exact w.2.2.2.1.2 x h9
    · simp at h9; subst h9; simp only; omega⟩
  obtain ⟨e1, e2, e3⟩ := small_W (S := wL S (gL S ++ [(k, p)])) (a := a) (b := b) ⟨hW, bd⟩ hu (d := 1) (c := 0) (by show 1 < aN (gA S); omega) (by show 0 < aN (gA S); omega) (m := k * p) (by omega)
  have e2' : psi (sBuy S k p) ≤ psi S + 2 * (k * p) := e2
  have e3' : sdp (sBuy S k p) = sdp S + k * p := e3
  exact nx_A bd e1 (by omega) (by omega) (by show jN (gJ S) + 1 ≤ _; omega) (Nat.le_add_right _ _) (Nat.le_succ _) (Nat.le_succ _)
theorem sell_W1 (h : WS a b S) (hu : a + b + 1 ≤ 512) {k p : Int} (hk : 1 ≤ k ∧ k ≤ 20) (hp : 1 ≤ p ∧ p ≤ 40) : WG (sEnt S 0 4 (k * p) 0) ∧ WG (sEnt (wL S (sTake k (gL S))) 0 4 (k * p) 0) := by
  obtain ⟨w, bd⟩ := h
  have hn := w.1.1
  have m0 : 0 ≤ k * p := Int.mul_nonneg (by omega) (by omega)
  have m1 : k * p ≤ 20 * 40 := Int.mul_le_mul (by omega) (by omega) (by omega) (by omega)
  have hW := wL_W w (sTake_W w.2.2.2.1 k (by omega)).1
  exact ⟨(small_W ⟨w, bd⟩ hu (by omega) (by omega) (by omega)).1, (small_W (S := wL S (sTake k (gL S))) (a := a) (b := b) ⟨hW, bd⟩ hu (d := 0) (c := 4) (by show 0 < aN (gA S); omega) (by show 4 < aN (gA S); omega) (m := k * p) (by omega)).1⟩
theorem nx_sell (h : WS a b S) (hu : a + b + 1 ≤ 512) {k p : Int} (hk : 1 ≤ k ∧ k ≤ 20) (hp : 1 ≤ p ∧ p ≤ 40) (hs : k ≤ lSum (gL S)) (hc : sCost k (gL S) ≤ 800) : NX a b (sSell S k p) := by
  obtain ⟨w, bd⟩ := h
  obtain ⟨g1, g2, g3, g4, g5, g6⟩ := bd.rng (by omega)
  have hn := w.1.1
  have m0 : 0 ≤ k * p := Int.mul_nonneg (by omega) (by omega)
  have m1 : k * p ≤ 20 * 40 := Int.mul_le_mul (by omega) (by omega) (by omega) (by omega)
  have hcr := (sCost_rng w.2.2.2.1 k (by omega)).1
  have hW := wL_W w (sTake_W w.2.2.2.1 k (by omega)).1
  obtain ⟨e1, e2, e3⟩ := small_W (S := wL S (sTake k (gL S))) (a := a) (b := b) ⟨hW, bd⟩ hu (d := 0) (c := 4) (by show 0 < aN (gA S); omega) (by show 4 < aN (gA S); omega) (m := k * p) (by omega)
  have p1 := ent_psi (S := sEnt (wL S (sTake k (gL S))) 0 4 (k * p) 0) (d := 5) (c := 1) (by show 5 < aN (gA S); omega) (by show 1 < aN (gA S); omega) hcr (mk := 0)
  have p2 := ent_sdp (S := sEnt (wL S (sTake k (gL S))) 0 4 (k * p) 0) (d := 5) (c := 1) (by show 5 < aN (gA S); omega) (m := sCost k (gL S)) (mk := 0)
  rw [if_neg (by decide), if_neg (by decide), if_neg (by omega)] at p1
  have e2' : psi (sEnt (wL S (sTake k (gL S))) 0 4 (k * p) 0) ≤ psi S + 2 * (k * p) := e2
  have e3' : sdp (sEnt (wL S (sTake k (gL S))) 0 4 (k * p) 0) = sdp S + k * p := e3
  have q1 : psi (sSell S k p) ≤ psi (sEnt (wL S (sTake k (gL S))) 0 4 (k * p) 0) + sCost k (gL S) + sCost k (gL S) + 0 := p1
  have q2 : sdp (sSell S k p) = sdp (sEnt (wL S (sTake k (gL S))) 0 4 (k * p) 0) + sCost k (gL S) := p2
  refine nx_A bd (ent_W e1 (by show 5 < aN (gA S); omega) (by show 1 < aN (gA S); omega) ⟨hcr, by omega⟩ (by decide) (fun _ h9 => absurd h9 (by omega)) (by show jN (gJ S) + 1 + 1 < _; omega) (show psi (sSell S k p) < _ by omega) (by omega)) (by omega) (by omega) (by show jN (gJ S) + 1 + 1 ≤ _; omega) (Nat.le_add_right _ _) (Nat.le_succ _) (Nat.le_succ _)
theorem nx_bill (h : WS a b S) (hu : a + b + 1 ≤ 512) (hl : (gB S).1.length < 10) {m : Int} (hm : 1 ≤ m ∧ m ≤ 999) : NX a b (sBill S m) := by
  obtain ⟨w, bd⟩ := h
  obtain ⟨g1, g2, g3, g4, g5, g6⟩ := bd.rng (by omega)
  have hn := w.1.1
  have wb := w.2.2.2.2.1
  have hW := wB_W w (B := ((gB S).1 ++ [(((gB S).2 : Int), m)], (gB S).2 + 1)) ⟨by rw [List.length_append]; show (gB S).1.length + 1 ≤ 10; omega, by show (gB S).2 + 1 < 1000000; omega, fun x hx => by
    rcases List.mem_append.mp hx with h9 | h9
    · have := wb.2.2 x h9
      show 0 ≤ x.1 ∧ x.1 < (((gB S).2 + 1 : Nat) : Int) ∧ _
      omega
    · simp at h9; subst h9; simp only; omega⟩
  have p1 := ent_psi (S := wB S ((gB S).1 ++ [(((gB S).2 : Int), m)], (gB S).2 + 1)) (d := 2) (c := 4) (by show 2 < aN (gA S); omega) (by show 4 < aN (gA S); omega) (m := m) (by omega) (mk := 0)
  have p2 := ent_sdp (S := wB S ((gB S).1 ++ [(((gB S).2 : Int), m)], (gB S).2 + 1)) (d := 2) (c := 4) (by show 2 < aN (gA S); omega) (m := m) (mk := 0)
  rw [if_neg (by decide), if_neg (by decide), if_neg (by omega)] at p1
  have q1 : psi (sBill S m) ≤ psi S + m + m + 0 := p1
  have q2 : sdp (sBill S m) = sdp S + m := p2
  exact nx_A bd (ent_W hW (by show 2 < aN (gA S); omega) (by show 4 < aN (gA S); omega) ⟨by omega, by omega⟩ (by decide) (fun _ h9 => absurd h9 (by omega)) (by show jN (gJ S) + 1 < _; omega) (show psi (sBill S m) < _ by omega) (by show sdp S + m < _; omega)) (by omega) (by omega) (by show jN (gJ S) + 1 ≤ _; omega) (Nat.le_add_right _ _) (Nat.le_succ _) (by show (gB S).2 + 1 ≤ _; omega)
theorem payB_W (w : WG S) {m : Int} (h0 : 1 ≤ m ∧ m ≤ 999) : WB (payB S m, (gB S).2) := by
  have wb := w.2.2.2.2.1
  unfold payB
  split
  · have hs := fltI_sub 0 (ordP m (gB S).1) 0
    refine ⟨by have := ordP_len (gB S).1 m; have := wb.1; show (fltI 0 0 (ordP m (gB S).1)).length ≤ 10; omega, wb.2.1, fun x hx => ?_⟩
    obtain ⟨y1, y2⟩ := hs.2 x hx
    obtain ⟨z, z1, z2⟩ := ordP_mem (gB S).1 m (by omega) (fun y hy => by have := wb.2.2 y hy; omega) x y1
    have := wb.2.2 z z1
    show 0 ≤ x.1 ∧ x.1 < ((gB S).2 : Int) ∧ _
    omega
  · have hs := fltI_sub (chS S m) (gB S).1 0
    refine ⟨by have := wb.1; show (fltI (chS S m) 0 (gB S).1).length ≤ 10; omega, wb.2.1, fun x hx => ?_⟩
    exact wb.2.2 x (hs.2 x hx).1
theorem nx_pay (h : WS a b S) (hu : a + b + 1 ≤ 512) {m : Int} (hm : 1 ≤ m ∧ m ≤ 999) : NX a b (sPay S m) := by
  obtain ⟨w, bd⟩ := h
  obtain ⟨g1, g2, g3, g4, g5, g6⟩ := bd.rng (by omega)
  have hn := w.1.1
  have hW := wB_W w (payB_W w hm)
  have p1 := ent_psi (S := wB S (payB S m, (gB S).2)) (d := 0) (c := 2) (by show 0 < aN (gA S); omega) (by show 2 < aN (gA S); omega) (m := m) (by omega) (mk := 0)
  have p2 := ent_sdp (S := wB S (payB S m, (gB S).2)) (d := 0) (c := 2) (by show 0 < aN (gA S); omega) (m := m) (mk := 0)
  rw [if_neg (by decide), if_neg (by decide), if_neg (by omega)] at p1
  have q1 : psi (sPay S m) ≤ psi S + m + m + 0 := p1
  have q2 : sdp (sPay S m) = sdp S + m := p2
  exact nx_A bd (ent_W hW (by show 0 < aN (gA S); omega) (by show 2 < aN (gA S); omega) ⟨by omega, by omega⟩ (by decide) (fun _ h9 => absurd h9 (by omega)) (by show jN (gJ S) + 1 < _; omega) (show psi (sPay S m) < _ by omega) (by show sdp S + m < _; omega)) (by omega) (by omega) (by show jN (gJ S) + 1 ≤ _; omega) (Nat.le_add_right _ _) (Nat.le_succ _) (Nat.le_succ _)
theorem fall_ok (h : WS a b S) (hu : a + b + 1 ≤ 512) : jN (gJ S) + 12 < 1000000 ∧ sdp S + nbS (gA S) < 2147483648 ∧ gC S + 1 < 1000000 := by
  obtain ⟨g1, g2, g3, g4, g5, g6⟩ := h.2.rng (by omega)
  obtain ⟨p1, p2, p3⟩ := psi_nn h.1
  refine ⟨by omega, by omega, by omega⟩
theorem nx_fall (h : WS a b S) (hu : a + b + 1 ≤ 512) : NX a b (sFall S) := by
  obtain ⟨f1, f2, f3⟩ := fall_ok h hu
  obtain ⟨w1, w2, w3, w4⟩ := fall_W h.1 f1 f2 f3
  obtain ⟨p1, p2, p3⟩ := psi_nn h.1
  have hn := h.1.1.2.1
  have e := (levs_W h.1 f1 f2 (aN (gA S)) (Nat.le_refl _)).2.2.2.2.2
  refine ⟨a, b + 1, by omega, Nat.le_refl _, by omega, w1, h.2.B w2 (by omega) (by omega) ?_ (Nat.le_refl _) ?_⟩
  · show (sLevs (aN (gA S)) S).2.2.2.2.2.1 ≤ _
    rw [e]
    exact Nat.le_add_right _ _
  · show (sLevs (aN (gA S)) S).2.2.2.2.1.2 ≤ _
    rw [e]
    exact Nat.le_succ _
theorem nx_open (h : WS a b S) (hn : aN (gA S) < 12) {k p : Int} (hk : isKd k) (hp : -1 ≤ p ∧ p < aN (gA S)) : NX a b (sOpen S k p) := by
  obtain ⟨e1, e2, e3⟩ := open_W h.1 hn hk hp
  exact nx_A h.2 e1 (by omega) (by omega) (Nat.le_add_right _ _) (Nat.le_add_right _ _) (Nat.le_succ _) (Nat.le_succ _)
theorem cost_800 {L : SL} (h : WL L) : ∀ k, 0 ≤ k → sCost k L ≤ 40 * k := by
  induction L with
  | nil => intro k hk; show (0 : Int) ≤ 40 * k; omega
  | cons x r ih =>
    intro k hk
    have q := h.2 x List.mem_cons_self
    have := ih h.tail (k - min k x.1) (by omega)
    rw [sCost]
    have b1 : min k x.1 * x.2 ≤ min k x.1 * 40 := Int.mul_le_mul_of_nonneg_left (by omega) (by omega)
    omega
end BU
