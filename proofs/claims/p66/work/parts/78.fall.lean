/-! ===== the curtain ===== -/
section FW
variable {S : SG}
theorem ie_ne (h : WG S) {i : Nat} (hi : aK (gA S) i = 105 ∨ aK (gA S) i = 101) : i ≠ 3 := by
  intro e
  subst e
  have := h.1.2.2.2.2.2
  omega
theorem lev_W (h : WG S) {i : Nat} (hi : i < aN (gA S)) (hj : jN (gJ S) + 1 < 1000000) (hs : sdp S + nbS (gA S) < 2147483648) : WG (sLev S i) ∧ psi (sLev S i) ≤ psi S ∧ sdp (sLev S i) + nbS (gA (sLev S i)) ≤ sdp S + nbS (gA S) ∧ jN (gJ (sLev S i)) ≤ jN (gJ S) + 1 ∧ aN (gA (sLev S i)) = aN (gA S) ∧ (sLev S i).2.2 = S.2.2 := by
  have hn := h.1.1
  have hwa := h.wa.2.2.2.2.2.2 i hi
  have hp := h.2.2.2.2.2.2.2.1
  unfold sLev
  split
  · rename_i hc
    have h3 := ie_ne h hc.1
    split
    · rename_i hx
      have hlv := nbS_level (A := gA S) hi h3 (d := 3) (c := i) (m := difA S i) (Or.inl ⟨rfl, rfl, rfl⟩) (by omega)
      have hnn := nbS_nn (sMove (gA S) 3 i (difA S i))
      have hbig := enter_big (gJ S) ((3 : Nat) : Int) (i : Int) (difA S i) (gH S) 0
      have e1 : psi (sEnt S 3 i (difA S i) 0) ≤ psi S := by
        show nbS (sMove (gA S) 3 i (difA S i)) + bigE (sEnterJ (gJ S) ((3 : Nat) : Int) i (difA S i) (gH S) 0) + 2 * pV (gP S) ≤ nbS (gA S) + bigE (gJ S) + 2 * pV (gP S)
        revert hbig
        split <;> intro hbig <;> omega
      have e2 := ent_sdp (S := S) (d := 3) (c := i) (by omega) (m := difA S i) (mk := 0)
      have hd9 : difA S i < 268435456 := hwa.2
      refine ⟨ent_W h (by omega) hi ⟨by omega, hd9⟩ (by decide) (fun _ _ => Or.inl rfl) hj (by omega) (by omega), e1, ?_, Nat.le_refl _, rfl, rfl⟩
      rw [e2]
      show _ + nbS (sMove (gA S) 3 i (difA S i)) ≤ _
      omega
    · rename_i hx
      have hlv := nbS_level (A := gA S) hi h3 (d := i) (c := 3) (m := -(difA S i)) (Or.inr ⟨rfl, rfl, rfl⟩) (by omega)
      have hnn := nbS_nn (sMove (gA S) i 3 (-(difA S i)))
      have hbig := enter_big (gJ S) (i : Int) ((3 : Nat) : Int) (-(difA S i)) (gH S) 0
      have e1 : psi (sEnt S i 3 (-(difA S i)) 0) ≤ psi S := by
        show nbS (sMove (gA S) i 3 (-(difA S i))) + bigE (sEnterJ (gJ S) (i : Int) ((3 : Nat) : Int) (-(difA S i)) (gH S) 0) + 2 * pV (gP S) ≤ nbS (gA S) + bigE (gJ S) + 2 * pV (gP S)
        revert hbig
        split <;> intro hbig <;> omega
      have e2 := ent_sdp (S := S) (d := i) (c := 3) hi (m := -(difA S i)) (mk := 0)
      have hd9 : -268435456 < difA S i := hwa.1
      refine ⟨ent_W h hi (by omega) ⟨by omega, by omega⟩ (by decide) (fun _ _ => Or.inr rfl) hj (by omega) (by omega), e1, ?_, Nat.le_refl _, rfl, rfl⟩
      rw [e2]
      show _ + nbS (sMove (gA S) i 3 (-(difA S i))) ≤ _
      omega
  · exact ⟨h, Int.le_refl _, Int.le_refl _, Nat.le_succ _, rfl, rfl⟩
theorem levs_W (h : WG S) (hj : jN (gJ S) + 12 < 1000000) (hs : sdp S + nbS (gA S) < 2147483648) : ∀ k, k ≤ aN (gA S) → WG (sLevs k S) ∧ psi (sLevs k S) ≤ psi S ∧ sdp (sLevs k S) + nbS (gA (sLevs k S)) ≤ sdp S + nbS (gA S) ∧ jN (gJ (sLevs k S)) ≤ jN (gJ S) + k ∧ aN (gA (sLevs k S)) = aN (gA S) ∧ (sLevs k S).2.2 = S.2.2 := by
  intro k
  induction k with
  | zero => intro _; exact ⟨h, Int.le_refl _, Int.le_refl _, Nat.le_refl _, rfl, rfl⟩
  | succ k ih =>
    intro hk
    have hn := h.1.2.1
    obtain ⟨a1, a2, a3, a4, a5, a6⟩ := ih (by omega)
    obtain ⟨b1, b2, b3, b4, b5, b6⟩ := lev_W a1 (i := k) (by omega) (by omega) (by omega)
    refine ⟨b1, ?_, ?_, ?_, ?_, ?_⟩
    · show psi (sLev (sLevs k S) k) ≤ _; omega
    · show sdp (sLev (sLevs k S) k) + nbS (gA (sLev (sLevs k S) k)) ≤ _; omega
    · show jN (gJ (sLev (sLevs k S) k)) ≤ _; omega
    · show aN (gA (sLev (sLevs k S) k)) = _; omega
    · show (sLev (sLevs k S) k).2.2 = _; rw [b6, a6]
theorem fall_W (h : WG S) (hj : jN (gJ S) + 12 < 1000000) (hs : sdp S + nbS (gA S) < 2147483648) (hc : gC S + 1 < 1000000) : WG (sFall S) ∧ psi (sFall S) ≤ psi S ∧ sdp (sFall S) ≤ sdp S + nbS (gA S) ∧ jN (gJ (sFall S)) ≤ jN (gJ S) + 12 := by
  have hn := h.1.2.1
  obtain ⟨a1, a2, a3, a4, a5, a6⟩ := levs_W h hj hs (aN (gA S)) (Nat.le_refl _)
  have hnn := nbS_nn (gA (sLevs (aN (gA S)) S))
  obtain ⟨w1, w2, w3, w4, w5, w6, w7, w8, w9⟩ := a1
  refine ⟨⟨w1, w2, w3, w4, w5, w6, hc, w8, w9⟩, a2, ?_, ?_⟩
  · show sdp (sLevs (aN (gA S)) S) ≤ _; omega
  · show jN (gJ (sLevs (aN (gA S)) S)) ≤ _; omega
end FW
section FC
variable {b : BooS} {S : SG} {s : MS}
theorem c_level (N : Nat) (h : RBo b S) (w : WG S) {i : Nat} (hi : i < aN (gA S)) (hk : aK (gA S) i = 105 ∨ aK (gA S) i = 101) : ∃ b', fX3_level N (iI (i : Int)) b = some b' ∧ RBo b' (sLev S i) := by
  have hn := w.1.1
  have hwa := w.wa.2.2.2.2.2.2 i hi
  have hd : difA S i = aD (gA S) i - aC (gA S) i := rfl
  unfold fX3_level
  rw [c_debitsAt N h.1 w.wa hi, xcall_s, c_creditsAt N h.1 w.wa hi, xcall_s, l_sub]
  rw [← hd] at hwa ⊢
  simp (disch := omega) only [xlet, xjoin, xnz_b0, xnz_b1, xnz_b, xcall_s, i_lit, i_add, i_sub, i_mul, i_neg, l_lit, l_add, l_sub, l_mul, l_neg, i_le, i_lt, i_eq, l_cmp0, l_cmplt, l_cmpgt, l_cmple, l_cmpge, b_zero, b_one, decide_eq_false_iff_not, decide_eq_true_eq]
  unfold sLev
  by_cases h1 : difA S i = 0
  · rw [if_pos (by omega), if_pos (by omega), if_neg (fun c => c.2 h1)]
    exact ⟨b, rfl, h⟩
  · rw [if_pos (show (aK (gA S) i = 105 ∨ aK (gA S) i = 101) ∧ difA S i ≠ 0 from ⟨hk, h1⟩)]
    by_cases h2 : 0 < difA S i
    · rw [if_neg (by omega), if_pos h2]
      obtain ⟨b1, e1, r1⟩ := c_ent N h w (d := 3) (c := i) (by omega) hi (difA S i)
      exact ⟨b1, by rw [show (iI 3) = iI ((3 : Nat) : Int) from rfl, e1, xcall_s], r1⟩
    · rw [if_pos (by omega), if_neg (by omega), if_neg h2]
      obtain ⟨b1, e1, r1⟩ := c_ent N h w (d := i) (c := 3) hi (by omega) (-(difA S i))
      exact ⟨b1, by rw [show (iI 3) = iI ((3 : Nat) : Int) from rfl, e1, xcall_s], r1⟩
theorem lev_no {i : Nat} (hk : ¬ (aK (gA S) i = 105 ∨ aK (gA S) i = 101)) : sLev S i = S := by
  unfold sLev
  rw [if_neg (fun c => hk c.1)]
theorem c_dropCurtain {N : Nat} (hN : 2000 ≤ N) (h : RBo b S) (w : WG S) (hj : jN (gJ S) + 12 < 1000000) (hs : sdp S + nbS (gA S) < 2147483648) : ∃ b', fX3_dropCurtain N b = some (iL (sumN (gainAt (gA S)) (aN (gA S))), b') ∧ RBo b' (sFall S) := by
  have hn := w.1.2.1
  unfold fX3_dropCurtain
  rw [c_gain hN h.1 w.wa, xcall_s]
  unfold xjoin
  dsimp only
  refine loopP (F := fun n (z : BooS) i => fX3_dropCurtain_L10 N _ n (iL (sumN (gainAt (gA S)) (aN (gA S)))) (iI (i : Int)) z) (I := fun z i => RBo z (sLevs i S)) (m := aN (gA S)) (P := fun r => ∃ b', r = some (iL (sumN (gainAt (gA S)) (aN (gA S))), b') ∧ RBo b' (sFall S)) ?_ ?_ N 0 b (by omega) (by omega) h
  · intro n z i hi hz
    obtain ⟨a1, a2, a3, a4, a5, a6⟩ := levs_W w hj hs i (by omega)
    have e5 : z.1.2.2.2.2 = iI (aN (gA S) : Int) := by rw [hz.1.2.1, a5]
    have ip := c_isOfProfit N hz.1 a1.wa (i := i) (by rw [a5]; exact hi)
    right
    by_cases hk : aK (gA (sLevs i S)) i = 105 ∨ aK (gA (sLevs i S)) i = 101
    · obtain ⟨b', e1, r1⟩ := c_level N hz a1 (i := i) (by rw [a5]; exact hi) hk
      refine ⟨b', ?_, r1⟩
      rw [fX3_dropCurtain_L10, e5, ip, decide_eq_true hk]
      simp (disch := omega) only [xlet, xjoin, xnz_b0, xnz_b1, xnz_b, xcall_s, i_lit, i_add, i_sub, i_mul, i_neg, i_le, i_lt, i_eq, l_cmp0, l_cmplt, l_cmpgt, l_cmple, l_cmpge, b_zero, b_one, decide_eq_false_iff_not, decide_eq_true_eq, e1, i_succ]
      rw [if_neg (by omega), if_neg (by decide)]
    · refine ⟨z, ?_, ?_⟩
      · rw [fX3_dropCurtain_L10, e5, ip, decide_eq_false hk]
        simp (disch := omega) only [xlet, xjoin, xnz_b0, xnz_b1, xnz_b, xcall_s, i_lit, i_add, i_sub, i_mul, i_neg, i_le, i_lt, i_eq, l_cmp0, l_cmplt, l_cmpgt, l_cmple, l_cmpge, b_zero, b_one, decide_eq_false_iff_not, decide_eq_true_eq, i_succ, if_true]
        rw [if_neg (by omega)]
      · show RBo z (sLev (sLevs i S) i)
        rw [lev_no hk]
        exact hz
  · intro n z hz
    obtain ⟨a1, a2, a3, a4, a5, a6⟩ := levs_W w hj hs (aN (gA S)) (Nat.le_refl _)
    have e5 : z.1.2.2.2.2 = iI (aN (gA S) : Int) := by rw [hz.1.2.1, a5]
    obtain ⟨r1, r2, r3, r4, r5, r6, r7⟩ := hz
    have e7 : z.2.2.2.2.2.2 = iI (gC S : Int) := by
      rw [r7]
      show iI (((sLevs (aN (gA S)) S).2.2.2.2.2.2 : Nat) : Int) = _
      rw [a6]
    refine ⟨Boos6 z (iI ((gC S + 1 : Nat) : Int)), ?_, r1, r2, r3, r4, r5, r6, rfl⟩
    rw [fX3_dropCurtain_L10, e5]
    simp (disch := omega) only [i_le]
    rw [if_pos (by omega), e7]
    simp only [xlet, i_lit, i_add, i_succ]
theorem GG.C {g : Nat → Int32} (h : GG g S) (w : WG S) (c : Nat) : GG (upd g 8 (iI (c : Int))) (wC S c) := by
  obtain ⟨f1, f2, f3, f4⟩ := w.fr
  obtain ⟨r1, r2, r3, r4, r5, r6, r7⟩ := h
  exact ⟨r1.of f1 fun k hk => upd_ne (by omega), r2.of fun k hk => upd_ne (by omega), r3.of f2 fun k hk => upd_ne (by omega), r4.of f3 fun k hk => upd_ne (by omega), r5.of f4 fun k hk => upd_ne (by omega), by rw [upd_ne (by omega)]; exact r6, upd_eq⟩
end FC
