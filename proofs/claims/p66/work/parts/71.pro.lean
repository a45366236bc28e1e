/-! ===== prompts ===== -/
def RP (p : ProS) (P : SP) : Prop := p.2.2.2.2.2.2 = iI (P.length : Int) ∧ ∀ (j : Nat) (x : SPe), P[j]? = some x → p.1 j = iI x.1 ∧ p.2.1 j = iI x.2.1 ∧ p.2.2.1 j = iI x.2.2.1 ∧ p.2.2.2.1 j = iI x.2.2.2.1 ∧ p.2.2.2.2.1 j = iI x.2.2.2.2.2 ∧ p.2.2.2.2.2.1 j = iI x.2.2.2.2.1
def AP (p : ProS) (P : SP) : Prop := ∀ (j : Nat) (x : SPe), P[j]? = some x → p.1 j = iI x.1 ∧ p.2.1 j = iI x.2.1 ∧ p.2.2.1 j = iI x.2.2.1 ∧ p.2.2.2.1 j = iI x.2.2.2.1 ∧ p.2.2.2.2.1 j = iI x.2.2.2.2.2 ∧ p.2.2.2.2.2.1 j = iI x.2.2.2.2.1
def WPe (n : Nat) (x : SPe) : Prop := 0 ≤ x.1 ∧ x.1 < n ∧ 0 ≤ x.2.1 ∧ x.2.1 < n ∧ 1 ≤ x.2.2.1 ∧ x.2.2.1 ≤ 999 ∧ 1 ≤ x.2.2.2.1 ∧ x.2.2.2.1 ≤ 12 ∧ 0 ≤ x.2.2.2.2.1 ∧ x.2.2.2.2.1 ≤ 9 ∧ 1 ≤ x.2.2.2.2.2 ∧ x.2.2.2.2.2 ≤ x.2.2.2.1
def WP (P : SP) (n : Nat) : Prop := P.length ≤ 6 ∧ ∀ x ∈ P, WPe n x ∧ 1 ≤ x.2.2.2.2.1
def tick (x : SPe) : SPe := if x.2.2.2.2.2 = 1 then (x.1, x.2.1, x.2.2.1, x.2.2.2.1, x.2.2.2.2.1 - 1, x.2.2.2.1) else (x.1, x.2.1, x.2.2.1, x.2.2.2.1, x.2.2.2.2.1, x.2.2.2.2.2 - 1)
def live (P : SP) : SP := P.filter (fun x => decide (0 < x.2.2.2.2.1))
section CP
variable {p q : ProS} {P : SP} {n : Nat}
theorem c_proCopy (N : Nat) (h : RP q P) (hl : P.length ≤ 6) : ∃ p', fX8_copyFrom N p q = some (p', q) ∧ RP p' P := by
  refine ⟨_, rfl, h.1, fun j x hx => ?_⟩
  have := h.2 j x hx
  have := lt_len hx
  simp only [xlet, cpy_at (show j < 6 by omega)]
  assumption
theorem c_phas (N : Nat) (h : RP p P) (hl : P.length ≤ 6) {z : Int} (hz : -2147483648 ≤ z ∧ z < 2147483648) : fX8_has N (iI z) p = some (iB (decide (0 ≤ z ∧ z < P.length))) := by
  unfold fX8_has
  rw [h.1]
  simp (disch := omega) only [xlet, xjoin, xnz_b0, xnz_b1, xnz_b, xcall_s, i_lit, i_add, i_sub, i_mul, i_neg, c_within]
  congr 2
  exact decide_eq_decide.mpr (by omega)
theorem c_pNew (N : Nat) (h : RP p P) (hl : P.length ≤ 6) {a b : Int} (ha : -2147483648 ≤ a ∧ a < 2147483648) (hb : -2147483648 ≤ b ∧ b < 2147483648) : fX8_faultOfNew N (iI a) (iI b) p = some (if ¬ ((1 ≤ a ∧ a ≤ 12) ∧ (1 ≤ b ∧ b ≤ 9)) then 3 else if 6 ≤ P.length then 4 else 0) := by
  unfold fX8_faultOfNew
  simp (disch := omega) only [xlet, xjoin, xnz_b0, xnz_b1, xnz_b, xcall_s, i_lit, i_add, i_sub, i_mul, i_neg, c_within, h.1, i_le, i_lt, i_eq, l_cmp0, l_cmplt, l_cmpgt, l_cmple, l_cmpge, b_zero, b_one, decide_eq_false_iff_not, decide_eq_true_eq]
  by_cases h1 : 1 ≤ a ∧ a ≤ 12
  · by_cases h2 : 1 ≤ b ∧ b ≤ 9
    · simp only [h1, h2, and_self, not_true_eq_false, if_false]
      by_cases h3 : 6 ≤ P.length
      · rw [if_pos (by omega), if_pos h3]
      · rw [if_neg (by omega), if_neg h3]
    · simp only [h1, h2, and_self, and_false, not_true_eq_false, if_false, not_false_eq_true, if_true]
  · simp only [h1, false_and, not_false_eq_true, if_true]
theorem AP.app {p : ProS} {P : SP} (h : AP p P) (x : SPe) (c : Int32) : AP (upd p.1 P.length (iI x.1), upd p.2.1 P.length (iI x.2.1), upd p.2.2.1 P.length (iI x.2.2.1), upd p.2.2.2.1 P.length (iI x.2.2.2.1), upd p.2.2.2.2.1 P.length (iI x.2.2.2.2.2), upd p.2.2.2.2.2.1 P.length (iI x.2.2.2.2.1), c) (P ++ [x]) := fun j y hy => by
  have := lt_len hy
  simp only [List.length_append, List.length_cons, List.length_nil] at this
  by_cases e : j < P.length
  · rw [List.getElem?_append_left e] at hy
    dsimp only
    rw [upd_ne (by omega), upd_ne (by omega), upd_ne (by omega), upd_ne (by omega), upd_ne (by omega), upd_ne (by omega)]
    exact h j y hy
  · have e : j = P.length := by omega
    subst e
    simp at hy
    subst hy
    dsimp only
    rw [upd_eq, upd_eq, upd_eq, upd_eq, upd_eq, upd_eq]
    exact ⟨rfl, rfl, rfl, rfl, rfl, rfl⟩
theorem c_pAdd (N : Nat) (h : RP p P) (hl : P.length < 6) (a b m e t : Int) : ∃ p', fX8_add N (iI a) (iI b) (iI m) (iI e) (iI t) p = some (iI (P.length : Int), p') ∧ RP p' (P ++ [(a, b, m, e, t, e)]) := by
  apply Exists.intro
  apply And.intro
  · unfold fX8_add
    simp (disch := omega) only [xlet, xjoin, xnz_b0, xnz_b1, xnz_b, xcall_s, h.1, xrd_n, i_lit, i_add, i_sub, i_mul, i_neg, i_le, i_lt, i_eq, l_cmp0, l_cmplt, l_cmpgt, l_cmple, l_cmpge, b_zero, b_one, decide_eq_false_iff_not, decide_eq_true_eq]
    rw [if_neg (by omega)]
  · exact ⟨by simp, AP.app h.2 (a, b, m, e, t, e) _⟩
theorem c_shift (N : Nat) {i k : Nat} {x : SPe} (hi : i < 6) (hk : k < 6) (hx : p.1 i = iI x.1 ∧ p.2.1 i = iI x.2.1 ∧ p.2.2.1 i = iI x.2.2.1 ∧ p.2.2.2.1 i = iI x.2.2.2.1 ∧ p.2.2.2.2.1 i = iI x.2.2.2.2.2 ∧ p.2.2.2.2.2.1 i = iI x.2.2.2.2.1) : fX8_shift N (iI (i : Int)) (iI (k : Int)) p = some (upd p.1 k (iI x.1), upd p.2.1 k (iI x.2.1), upd p.2.2.1 k (iI x.2.2.1), upd p.2.2.2.1 k (iI x.2.2.2.1), upd p.2.2.2.2.1 k (iI x.2.2.2.2.2), upd p.2.2.2.2.2.1 k (iI x.2.2.2.2.1), p.2.2.2.2.2.2) := by
  obtain ⟨h1, h2, h3, h4, h5, h6⟩ := hx
  unfold fX8_shift
  simp (disch := omega) only [xlet, xjoin, xnz_b0, xnz_b1, xnz_b, xcall_s, xrd_n, h1, h2, h3, h4, h5, h6]
theorem c_dropEnded {N : Nat} (hN : 2000 ≤ N) (h : RP p P) (hl : P.length ≤ 6) (hw : ∀ x ∈ P, 0 ≤ x.2.2.2.2.1 ∧ x.2.2.2.2.1 ≤ 9) : ∃ p', fX8_dropEnded N p = some p' ∧ RP p' (live P) := by
  unfold fX8_dropEnded xjoin
  refine loopP (F := fun n (z : ProS × SP) i => fX8_dropEnded_L4 N _ n (iI (z.2.length : Int)) (iI (i : Int)) z.1) (I := fun z i => z.2 ++ live (P.drop i) = live P ∧ z.2.length ≤ i ∧ z.1.2.2.2.2.2.2 = iI (P.length : Int) ∧ AP z.1 z.2 ∧ ∀ j x, i ≤ j → P[j]? = some x → z.1.1 j = iI x.1 ∧ z.1.2.1 j = iI x.2.1 ∧ z.1.2.2.1 j = iI x.2.2.1 ∧ z.1.2.2.2.1 j = iI x.2.2.2.1 ∧ z.1.2.2.2.2.1 j = iI x.2.2.2.2.2 ∧ z.1.2.2.2.2.2.1 j = iI x.2.2.2.2.1) (m := P.length) (P := fun r => ∃ p', r = some p' ∧ RP p' (live P)) ?_ ?_ N 0 (p, []) (by omega) (by omega) ⟨by simp, by simp, h.1, fun j x hx => by simp at hx, fun j x _ hx => h.2 j x hx⟩
  · intro n ⟨w, o⟩ i hi ⟨h2, h3, h4, h5, h6⟩
    simp only at h2 h3 h4 h5 h6 ⊢
    obtain ⟨x, hx, hd, hm⟩ := drop_at hi
    have q := hw x hm
    have g := h6 i x (by omega) hx
    right
    by_cases hc : 0 < x.2.2.2.2.1
    · have e : live (x :: P.drop (i + 1)) = x :: live (P.drop (i + 1)) := by unfold live; rw [List.filter_cons_of_pos (by simpa using hc)]
      rw [hd, e] at h2
      refine ⟨(_, o ++ [x]), ?_, by simpa using h2, by simp; omega, ?_, AP.app h5 x w.2.2.2.2.2.2, fun j y hj hy => ?_⟩
      · simp (disch := omega) only [fX8_dropEnded_L4, xlet, xjoin, xnz_b0, xnz_b1, xnz_b, xcall_s, xrd_n, h4, g.2.2.2.2.2, i_lit, i_add, i_sub, i_mul, i_neg, i_le, i_lt, i_eq, l_cmp0, l_cmplt, l_cmpgt, l_cmple, l_cmpge, b_zero, b_one, decide_eq_false_iff_not, decide_eq_true_eq, i_succ, c_shift N (show i < 6 by omega) (show o.length < 6 by omega) g]
        rw [if_neg (by omega), if_neg (by omega)]
        simp only [List.length_append, List.length_cons, List.length_nil, Nat.zero_add]
      · exact h4
      · dsimp only
        rw [upd_ne (by omega), upd_ne (by omega), upd_ne (by omega), upd_ne (by omega), upd_ne (by omega), upd_ne (by omega)]
        exact h6 j y (by omega) hy
    · have e : live (x :: P.drop (i + 1)) = live (P.drop (i + 1)) := by unfold live; rw [List.filter_cons_of_neg (by simpa using hc)]
      rw [hd, e] at h2
      refine ⟨(w, o), ?_, h2, by simp only; omega, h4, h5, fun j y hj hy => h6 j y (by omega) hy⟩
      simp (disch := omega) only [fX8_dropEnded_L4, xlet, xjoin, xnz_b0, xnz_b1, xnz_b, xcall_s, xrd_n, h4, g.2.2.2.2.2, i_lit, i_add, i_sub, i_mul, i_neg, i_le, i_lt, i_eq, l_cmp0, l_cmplt, l_cmpgt, l_cmple, l_cmpge, b_zero, b_one, decide_eq_false_iff_not, decide_eq_true_eq, i_succ]
      rw [if_neg (by omega), if_pos (by omega)]
  · intro n ⟨w, o⟩ ⟨h2, h3, h4, h5, h6⟩
    simp only at h2 h3 h4 h5 h6 ⊢
    rw [List.drop_eq_nil_of_le (Nat.le_refl _)] at h2
    have e : live [] = [] := rfl
    rw [e, List.append_nil] at h2
    refine ⟨Pros6 w (iI (o.length : Int)), ?_, by rw [← h2]; exact ⟨rfl, h5⟩⟩
    simp (disch := omega) only [fX8_dropEnded_L4, xlet, xjoin, xnz_b0, xnz_b1, xnz_b, xcall_s, h4, i_le, i_lt, i_eq, l_cmp0, l_cmplt, l_cmpgt, l_cmple, l_cmpge, b_zero, b_one, decide_eq_false_iff_not, decide_eq_true_eq]
    rw [if_pos (by omega)]
theorem live_erase {P : SP} (hw : ∀ x ∈ P, 1 ≤ x.2.2.2.2.1) {i : Nat} {x : SPe} (hx : P[i]? = some x) : live (P.set i (x.1, x.2.1, x.2.2.1, x.2.2.2.1, 0, x.2.2.2.2.2)) = P.eraseIdx i := by
  unfold live
  induction P generalizing i with
  | nil => simp at hx
  | cons y r ih =>
    have h1 : ∀ x ∈ r, 1 ≤ x.2.2.2.2.1 := fun x hx => hw x (List.mem_cons_of_mem _ hx)
    have h2 := hw y List.mem_cons_self
    cases i with
    | zero =>
      simp at hx
      subst hx
      show List.filter _ (_ :: r) = r
      rw [List.filter_cons_of_neg (by simp)]
      rw [List.filter_eq_self]
      intro a ha
      have := h1 a ha
      simpa using (by omega : 0 < a.2.2.2.2.1)
    | succ i =>
      simp at hx
      show List.filter _ (y :: r.set i _) = y :: r.eraseIdx i
      rw [List.filter_cons_of_pos (by simpa using (by omega : 0 < y.2.2.2.2.1)), ih h1 hx]
theorem c_pEnd {N : Nat} (hN : 2000 ≤ N) (h : RP p P) (w : WP P n) {i : Nat} {x : SPe} (hx : P[i]? = some x) : ∃ p', fX8_end N (iI (i : Int)) p = some (iI x.2.2.2.2.1, p') ∧ RP p' (P.eraseIdx i) := by
  have hl := w.1
  have hi := lt_len hx
  have g := h.2 i x hx
  have hR : RP (Pros5 p (upd p.2.2.2.2.2.1 i (iI 0))) (P.set i (x.1, x.2.1, x.2.2.1, x.2.2.2.1, 0, x.2.2.2.2.2)) := by
    refine ⟨by rw [List.length_set]; exact h.1, fun j y hy => ?_⟩
    rw [List.getElem?_set] at hy
    by_cases e : i = j
    · subst e
      rw [if_pos rfl, if_pos hi] at hy
      cases hy
      exact ⟨g.1, g.2.1, g.2.2.1, g.2.2.2.1, g.2.2.2.2.1, upd_eq⟩
    · rw [if_neg e] at hy
      have := h.2 j y hy
      exact ⟨this.1, this.2.1, this.2.2.1, this.2.2.2.1, this.2.2.2.2.1, by show upd _ _ _ j = _; rw [upd_ne (by omega)]; exact this.2.2.2.2.2⟩
  obtain ⟨p', d1, d2⟩ := c_dropEnded hN hR (by rw [List.length_set]; exact hl) (fun y hy => by
    rcases List.mem_or_eq_of_mem_set hy with h1 | h1
    · have := (w.2 y h1).1; unfold WPe at this; omega
    · subst h1; simp only; omega)
  rw [live_erase (fun y hy => (w.2 y hy).2) hx] at d2
  refine ⟨p', ?_, d2⟩
  unfold fX8_end
  simp (disch := omega) only [xlet, xjoin, xnz_b0, xnz_b1, xnz_b, xcall_s, xrd_n, g.2.2.2.2.2, i_lit]
  rw [d1, xcall_s]
theorem c_comesDue (N : Nat) {i : Nat} (hl : i < 6) {x : SPe} (g : p.1 i = iI x.1 ∧ p.2.1 i = iI x.2.1 ∧ p.2.2.1 i = iI x.2.2.1 ∧ p.2.2.2.1 i = iI x.2.2.2.1 ∧ p.2.2.2.2.1 i = iI x.2.2.2.2.2 ∧ p.2.2.2.2.2.1 i = iI x.2.2.2.2.1) (hw : 1 ≤ x.2.2.2.2.2 ∧ x.2.2.2.2.2 ≤ 12) : fX8_comesDue N (iI (i : Int)) p = some (iB (decide (x.2.2.2.2.2 = 1)), (p.1, p.2.1, p.2.2.1, p.2.2.2.1, (if x.2.2.2.2.2 = 1 then upd (upd p.2.2.2.2.1 i (iI 0)) i (iI x.2.2.2.1) else upd p.2.2.2.2.1 i (iI (x.2.2.2.2.2 - 1))), (if x.2.2.2.2.2 = 1 then upd p.2.2.2.2.2.1 i (iI (x.2.2.2.2.1 - 1)) else p.2.2.2.2.2.1), p.2.2.2.2.2.2)) := by
  obtain ⟨g1, g2, g3, g4, g5, g6⟩ := g
  unfold fX8_comesDue
  simp (disch := omega) only [xlet, xjoin, xnz_b0, xnz_b1, xnz_b, xcall_s, xrd_n, g4, g5, g6, i_lit, i_add, i_sub, i_mul, i_neg, upd_eq, i_le, i_lt, i_eq, l_cmp0, l_cmplt, l_cmpgt, l_cmple, l_cmpge, b_zero, b_one, decide_eq_false_iff_not, decide_eq_true_eq]
  by_cases hc : x.2.2.2.2.2 = 1
  · rw [if_pos (by omega), if_pos hc, if_pos hc, decide_eq_true hc, hc]
    rfl
  · rw [if_neg (by omega), if_neg hc, if_neg hc, decide_eq_false hc]
    rfl
theorem c_pdeb (N : Nat) {i : Nat} (hl : i < 6) {v : Int} (g : p.1 i = iI v) : fX8_debitedBy N (iI (i : Int)) p = some (iI v) := by
  unfold fX8_debitedBy
  rw [xrd_n hl (by omega), g]
theorem c_pcre (N : Nat) {i : Nat} (hl : i < 6) {v : Int} (g : p.2.1 i = iI v) : fX8_creditedBy N (iI (i : Int)) p = some (iI v) := by
  unfold fX8_creditedBy
  rw [xrd_n hl (by omega), g]
theorem c_pamt (N : Nat) {i : Nat} (hl : i < 6) {v : Int} (g : p.2.2.1 i = iI v) : fX8_amountIn N (iI (i : Int)) p = some (iI v) := by
  unfold fX8_amountIn
  rw [xrd_n hl (by omega), g]
theorem c_phrs (N : Nat) {i : Nat} (hl : i < 6) {v : Int} (g : p.2.2.2.2.1 i = iI v) : fX8_hoursLeftOf N (iI (i : Int)) p = some (iI v) := by
  unfold fX8_hoursLeftOf
  rw [xrd_n hl (by omega), g]
theorem c_ptim (N : Nat) {i : Nat} (hl : i < 6) {v : Int} (g : p.2.2.2.2.2.1 i = iI v) : fX8_timesLeftOf N (iI (i : Int)) p = some (iI v) := by
  unfold fX8_timesLeftOf
  rw [xrd_n hl (by omega), g]
end CP
