/-! ===== entries ===== -/
def RJ (j : JouS) (J : SJ) : Prop := j.2.2.2.2.2 = iI (jN J : Int) ∧ ∀ e, jN J - jK J ≤ e → e < jN J → j.1 (e % 20) = iI (jD J e) ∧ j.2.1 (e % 20) = iI (jC J e) ∧ j.2.2.1 (e % 20) = iL (jA J e) ∧ j.2.2.2.1 (e % 20) = iI (jH J e) ∧ j.2.2.2.2.1 (e % 20) = iI (jM J e)
def sEnterJ (J : SJ) (d c a h m : Int) : SJ := (jN J + 1, updI (jD J) (jN J) d, updI (jC J) (jN J) c, updI (jA J) (jN J) a, updI (jH J) (jN J) h, updI (jM J) (jN J) m)
def sMark (J : SJ) (e : Nat) (m : Int) : SJ := (jN J, jD J, jC J, jA J, jH J, updI (jM J) e m)
def WJ (J : SJ) (n h : Nat) : Prop := jN J < 1000000 ∧ ∀ e, jN J - jK J ≤ e → e < jN J → 0 ≤ jD J e ∧ jD J e < n ∧ 0 ≤ jC J e ∧ jC J e < n ∧ 0 ≤ jA J e ∧ jA J e < 268435456 ∧ 0 ≤ jH J e ∧ jH J e ≤ h ∧ 0 ≤ jM J e ∧ jM J e ≤ 2 ∧ (jM J e = 0 → 999 < jA J e → jD J e = 3 ∨ jC J e = 3)
theorem tdiv_nat (a b : Nat) : Int.tdiv (a : Int) (b : Int) = ((a / b : Nat) : Int) := rfl
theorem c_rowOf (N : Nat) {e : Nat} (he : e < 2147483648) : fX6_rowOf N (iI (e : Int)) = some (iI ((e % 20 : Nat) : Int)) := by
  unfold fX6_rowOf
  have h1 : (iI (e : Int)) / 20 = iI ((e / 20 : Nat) : Int) := by
    rw [i_lit, i_div (by omega) (by omega) (by omega) (by omega)]
    rfl
  rw [h1]
  have h2 : iI (e : Int) - iI ((e / 20 : Nat) : Int) * 20 = iI ((e % 20 : Nat) : Int) := by
    simp only [i_lit, i_add, i_sub, i_mul, i_neg]
    congr 1
    omega
  rw [h2]
  simp (disch := omega) only [xlet, xjoin, xnz_b0, xnz_b1, xnz_b, xcall_s, i_lit, i_add, i_sub, i_mul, i_neg, i_le, i_lt, i_eq, l_cmp0, l_cmplt, l_cmpgt, l_cmple, l_cmpge, b_zero, b_one, decide_eq_false_iff_not, decide_eq_true_eq]
  rw [if_pos (by omega)]
theorem c_min (N : Nat) {a b : Int} (ha : -2147483648 ≤ a ∧ a < 2147483648) (hb : -2147483648 ≤ b ∧ b < 2147483648) : fJ9_min_7cf53 N (iI a) (iI b) = some (iI (min a b)) := by
  unfold fJ9_min_7cf53
  simp (disch := omega) only [xlet, xjoin, xnz_b0, xnz_b1, xnz_b, xcall_s, i_le, i_lt, i_eq, l_cmp0, l_cmplt, l_cmpgt, l_cmple, l_cmpge, b_zero, b_one, decide_eq_false_iff_not, decide_eq_true_eq]
  by_cases h : b < a
  · rw [if_pos h, Int.min_eq_right (by omega)]
  · rw [if_neg h, Int.min_eq_left (by omega)]
theorem c_max (N : Nat) {a b : Int} (ha : -2147483648 ≤ a ∧ a < 2147483648) (hb : -2147483648 ≤ b ∧ b < 2147483648) : fJ9_max_7cf53 N (iI a) (iI b) = some (iI (max a b)) := by
  unfold fJ9_max_7cf53
  simp (disch := omega) only [xlet, xjoin, xnz_b0, xnz_b1, xnz_b, xcall_s, i_le, i_lt, i_eq, l_cmp0, l_cmplt, l_cmpgt, l_cmple, l_cmpge, b_zero, b_one, decide_eq_false_iff_not, decide_eq_true_eq]
  by_cases h : a < b
  · rw [if_pos h, Int.max_eq_right (by omega)]
  · rw [if_neg h, Int.max_eq_left (by omega)]
section CJ
variable {j k : JouS} {J : SJ}
theorem c_jouCopy (N : Nat) (h : RJ k J) : ∃ j', fX6_copyFrom N j k = some (j', k) ∧ RJ j' J := by
  refine ⟨_, rfl, h.1, fun e h1 h2 => ?_⟩
  have := h.2 e h1 h2
  simp only [xlet, cpy_at (show e % 20 < 20 by omega)]
  exact this
theorem c_keptCount (N : Nat) (h : RJ j J) (hn : jN J < 1000000) : fX6_keptCount N j = some (iI (jK J : Int)) := by
  unfold fX6_keptCount jK
  rw [h.1, i_lit, c_min N (by omega) (by omega), xcall_s]
  congr 2
  omega
theorem c_idAt (N : Nat) (h : RJ j J) (hn : jN J < 1000000) (z : Int) : fX6_idAt N (iI z) j = some (iI ((jN J : Int) - jK J + z)) := by
  unfold fX6_idAt
  rw [c_keptCount N h hn, xcall_s, h.1]
  simp only [i_lit, i_add, i_sub, i_mul, i_neg]
theorem c_jhas (N : Nat) (h : RJ j J) (hn : jN J < 1000000) {z : Int} (hz : -2147483648 ≤ z ∧ z < 2147483648) : fX6_has N (iI z) j = some (iB (decide ((jN J : Int) - jK J ≤ z ∧ z < jN J))) := by
  have := jK_le J
  unfold fX6_has
  rw [c_keptCount N h hn, xcall_s, h.1]
  simp (disch := omega) only [xlet, xjoin, xnz_b0, xnz_b1, xnz_b, xcall_s, i_lit, i_add, i_sub, i_mul, i_neg, c_within]
  congr 2
  exact decide_eq_decide.mpr (by omega)
theorem c_fRev (N : Nat) (h : RJ j J) {n t : Nat} (w : WJ J n t) {z : Int} (hz : -2147483648 ≤ z ∧ z < 2147483648) : fX6_faultOfReversal N (iI z) j = some (if ¬ ((jN J : Int) - jK J ≤ z ∧ z < jN J) then 2 else if jM J z.toNat = 0 then 0 else 4) := by
  have := jK_le J
  have hk : jK J ≤ jN J := by unfold jK; omega
  unfold fX6_faultOfReversal
  rw [c_jhas N h w.1 hz, xcall_s]
  simp only [xlet, xjoin, xnz_b0, xnz_b1, xnz_b, xcall_s, i_lit, i_add, i_sub, i_mul, i_neg, i_le, i_lt, i_eq, l_cmp0, l_cmplt, l_cmpgt, l_cmple, l_cmpge, b_zero, b_one, decide_eq_false_iff_not, decide_eq_true_eq]
  by_cases h1 : (jN J : Int) - jK J ≤ z ∧ z < jN J
  · rw [if_neg (by simpa using h1), if_neg (by simpa using h1)]
    obtain ⟨e, rfl⟩ := Int.eq_ofNat_of_zero_le (show 0 ≤ z by omega)
    have q := h.2 e (by omega) (by omega)
    have r := w.2 e (by omega) (by omega)
    rw [c_rowOf N (by omega), xcall_s, xrd_n (by omega) (by omega), q.2.2.2.2, Int.toNat_natCast]
    simp (disch := omega) only [i_le, i_lt, i_eq, l_cmp0, l_cmplt, l_cmpgt, l_cmple, l_cmpge, b_zero, b_one, decide_eq_false_iff_not, decide_eq_true_eq]
    split <;> rfl
  · rw [if_pos (by simpa using h1), if_pos (by simpa using h1)]
theorem mod_ne {a b : Nat} (h1 : a < b) (h2 : b < a + 20) : a % 20 ≠ b % 20 := by omega
theorem c_jadd (N : Nat) (h : RJ j J) (hn : jN J < 1000000) (d c a t : Int) : ∃ j', fX6_add N (iI d) (iI c) (iL a) (iI t) j = some (iI (jN J : Int), j') ∧ RJ j' (sEnterJ J d c a t 0) := by
  apply Exists.intro
  apply And.intro
  · unfold fX6_add
    rw [h.1, c_rowOf N (by omega)]
    simp (disch := omega) only [xlet, xjoin, xnz_b0, xnz_b1, xnz_b, xcall_s, xrd_n, i_lit, i_add, i_sub, i_mul, i_neg]
    rw [show ((jN J : Int) + 1 - 1) = jN J by omega]
  · refine ⟨rfl, fun e h1 h2 => ?_⟩
    have h2 : e < jN J + 1 := h2
    have h1 : jN J + 1 - min (jN J + 1) 20 ≤ e := h1
    by_cases h3 : e = jN J
    · subst h3
      show upd j.1 (jN J % 20) (iI d) (jN J % 20) = iI (updI (jD J) (jN J) d (jN J)) ∧ upd j.2.1 (jN J % 20) (iI c) (jN J % 20) = iI (updI (jC J) (jN J) c (jN J)) ∧ vp_updL j.2.2.1 (jN J % 20) (iL a) (jN J % 20) = iL (updI (jA J) (jN J) a (jN J)) ∧ upd j.2.2.2.1 (jN J % 20) (iI t) (jN J % 20) = iI (updI (jH J) (jN J) t (jN J)) ∧ upd j.2.2.2.2.1 (jN J % 20) (iI 0) (jN J % 20) = iI (updI (jM J) (jN J) 0 (jN J))
      rw [upd_eq, upd_eq, updL_eq, upd_eq, upd_eq, updI_eq, updI_eq, updI_eq, updI_eq, updI_eq]
      exact ⟨rfl, rfl, rfl, rfl, rfl⟩
    · have q := h.2 e (by unfold jK; omega) (by omega)
      have m := mod_ne (a := e) (b := jN J) (by omega) (by omega)
      show upd j.1 (jN J % 20) (iI d) (e % 20) = iI (updI (jD J) (jN J) d e) ∧ upd j.2.1 (jN J % 20) (iI c) (e % 20) = iI (updI (jC J) (jN J) c e) ∧ vp_updL j.2.2.1 (jN J % 20) (iL a) (e % 20) = iL (updI (jA J) (jN J) a e) ∧ upd j.2.2.2.1 (jN J % 20) (iI t) (e % 20) = iI (updI (jH J) (jN J) t e) ∧ upd j.2.2.2.2.1 (jN J % 20) (iI 0) (e % 20) = iI (updI (jM J) (jN J) 0 e)
      rw [upd_ne m, upd_ne m, updL_ne m, upd_ne m, upd_ne m, updI_ne h3, updI_ne h3, updI_ne h3, updI_ne h3, updI_ne h3]
      exact q
theorem c_markReversed (N : Nat) (h : RJ j J) (hn : jN J < 1000000) {e : Nat} (h1 : jN J - jK J ≤ e) (h2 : e < jN J) : ∃ j', fX6_markReversed N (iI (e : Int)) j = some j' ∧ RJ j' (sMark J e 1) := by
  apply Exists.intro
  apply And.intro
  · unfold fX6_markReversed
    rw [c_rowOf N (by omega)]
    simp (disch := omega) only [xlet, xjoin, xnz_b0, xnz_b1, xnz_b, xcall_s, xrd_n, i_lit, i_add, i_sub, i_mul, i_neg]
    rfl
  · refine ⟨h.1, fun x h3 h4 => ?_⟩
    have h4 : x < jN J := h4
    have h3 : jN J - jK J ≤ x := h3
    have q := h.2 x h3 h4
    refine ⟨q.1, q.2.1, q.2.2.1, q.2.2.2.1, ?_⟩
    have := jK_le J
    by_cases h5 : x = e
    · subst h5
      show upd j.2.2.2.2.1 (x % 20) (iI 1) (x % 20) = iI (updI (jM J) x 1 x)
      rw [upd_eq, updI_eq]
    · have m : x % 20 ≠ e % 20 := by omega
      show upd j.2.2.2.2.1 (e % 20) (iI 1) (x % 20) = iI (updI (jM J) e 1 x)
      rw [upd_ne m, updI_ne h5]
      exact q.2.2.2.2
theorem c_markReversal (N : Nat) (h : RJ j J) (hn : jN J < 1000000) {e : Nat} (h1 : jN J - jK J ≤ e) (h2 : e < jN J) : ∃ j', fX6_markReversal N (iI (e : Int)) j = some j' ∧ RJ j' (sMark J e 2) := by
  apply Exists.intro
  apply And.intro
  · unfold fX6_markReversal
    rw [c_rowOf N (by omega)]
    simp (disch := omega) only [xlet, xjoin, xnz_b0, xnz_b1, xnz_b, xcall_s, xrd_n, i_lit, i_add, i_sub, i_mul, i_neg]
    rfl
  · refine ⟨h.1, fun x h3 h4 => ?_⟩
    have h4 : x < jN J := h4
    have h3 : jN J - jK J ≤ x := h3
    have q := h.2 x h3 h4
    refine ⟨q.1, q.2.1, q.2.2.1, q.2.2.2.1, ?_⟩
    have := jK_le J
    by_cases h5 : x = e
    · subst h5
      show upd j.2.2.2.2.1 (x % 20) (iI 2) (x % 20) = iI (updI (jM J) x 2 x)
      rw [upd_eq, updI_eq]
    · have m : x % 20 ≠ e % 20 := by omega
      show upd j.2.2.2.2.1 (e % 20) (iI 2) (x % 20) = iI (updI (jM J) e 2 x)
      rw [upd_ne m, updI_ne h5]
      exact q.2.2.2.2
theorem c_jdeb (N : Nat) (h : RJ j J) (hn : jN J < 1000000) {e : Nat} (h1 : jN J - jK J ≤ e) (h2 : e < jN J) : fX6_debitedBy N (iI (e : Int)) j = some (iI (jD J e)) := by
  unfold fX6_debitedBy
  rw [c_rowOf N (by omega), xcall_s, xrd_n (by omega) (by omega), (h.2 e h1 h2).1]
theorem c_jcre (N : Nat) (h : RJ j J) (hn : jN J < 1000000) {e : Nat} (h1 : jN J - jK J ≤ e) (h2 : e < jN J) : fX6_creditedBy N (iI (e : Int)) j = some (iI (jC J e)) := by
  unfold fX6_creditedBy
  rw [c_rowOf N (by omega), xcall_s, xrd_n (by omega) (by omega), (h.2 e h1 h2).2.1]
theorem c_jamt (N : Nat) (h : RJ j J) (hn : jN J < 1000000) {e : Nat} (h1 : jN J - jK J ≤ e) (h2 : e < jN J) : fX6_amountIn N (iI (e : Int)) j = some (iL (jA J e)) := by
  unfold fX6_amountIn
  rw [c_rowOf N (by omega), xcall_s, xrd_n (by omega) (by omega), (h.2 e h1 h2).2.2.1]
theorem c_jhour (N : Nat) (h : RJ j J) (hn : jN J < 1000000) {e : Nat} (h1 : jN J - jK J ≤ e) (h2 : e < jN J) : fX6_hourAt N (iI (e : Int)) j = some (iI (jH J e)) := by
  unfold fX6_hourAt
  rw [c_rowOf N (by omega), xcall_s, xrd_n (by omega) (by omega), (h.2 e h1 h2).2.2.2.1]
theorem c_jwas (N : Nat) (h : RJ j J) {n t : Nat} (w : WJ J n t) {e : Nat} (h1 : jN J - jK J ≤ e) (h2 : e < jN J) : fX6_wasReversed N (iI (e : Int)) j = some (iB (decide (jM J e = 1))) := by
  have := w.1
  have r := w.2 e h1 h2
  unfold fX6_wasReversed
  rw [c_rowOf N (by omega), xcall_s, xrd_n (by omega) (by omega), (h.2 e h1 h2).2.2.2.2]
  simp (disch := omega) only [xlet, xjoin, xnz_b0, xnz_b1, xnz_b, xcall_s, i_lit, i_add, i_sub, i_mul, i_neg, i_le, i_lt, i_eq, l_cmp0, l_cmplt, l_cmpgt, l_cmple, l_cmpge, b_zero, b_one, decide_eq_false_iff_not, decide_eq_true_eq]
  by_cases h3 : jM J e = 1
  · rw [if_pos h3, decide_eq_true h3]; rfl
  · rw [if_neg h3, decide_eq_false h3]; rfl
end CJ
/-! the reference's entries -/
def shE (i : Nat) (g : Nat → Int32) : Nat → Int32 := fun k => if 57 ≤ k ∧ k < 57 + 20 * i ∧ (k - 57) % 20 ≠ 19 then g (k + 1) else g k
section ME
variable {s : MS} {A : SA} {J : SJ}
end ME
