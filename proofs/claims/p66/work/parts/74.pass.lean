/-! ===== hours pass: class and reference ===== -/
def RBo (b : BooS) (S : SG) : Prop := RA b.1 (gA S) ∧ RJ b.2.1 (gJ S) ∧ RP b.2.2.1 (gP S) ∧ RW b.2.2.2.1 (gL S) ∧ RB b.2.2.2.2.1 (gB S) ∧ b.2.2.2.2.2.1 = iI (gH S : Int) ∧ b.2.2.2.2.2.2 = iI (gC S : Int)
section CL
variable {b : BooS} {S : SG} {A : SA} {J : SJ} {P : SP}
theorem c_makeEntry (N : Nat) (hA : RA b.1 A) (hJ : RJ b.2.1 J) {t : Nat} (h0 : b.2.2.2.2.2.1 = iI (t : Int)) (hn : aN A ≤ 12) (hj : jN J < 1000000) {d c : Nat} (hd : d < aN A) (hc : c < aN A) (a : Int) : ∃ a' j', fX3_makeEntry N (iI (d : Int)) (iI (c : Int)) (iL a) b = some (iI (jN J : Int), (a', j', b.2.2)) ∧ RA a' (sMove A d c a) ∧ RJ j' (sEnterJ J d c a t 0) := by
  obtain ⟨a', e1, r1⟩ := c_move N hA hn hd hc a
  obtain ⟨j', e2, r2⟩ := c_jadd N hJ hj d c a t
  refine ⟨a', j', ?_, r1, r2⟩
  unfold fX3_makeEntry
  rw [e1, xcall_s, h0, e2, xcall_s]
theorem c_dueLoop {N : Nat} (hN : 2000 ≤ N) (K : Int32 → Int32 → Int32 → BooS → Option (Int32 × BooS)) (v1 v3 : Int32) {t c0 : Nat} (ht : t < 1000000) (hc0 : c0 < 100000) (hA : RA b.1 A) (hJ : RJ b.2.1 J) (hP : RP b.2.2.1 P) (h0 : b.2.2.2.2.2.1 = iI (t : Int)) (hn : aN A ≤ 12) (hj : jN J < 999990) (w : WP P (aN A)) : ∃ a' j' p', fX3_letPass_L22 N K N v1 (iI (c0 : Int)) v3 (iI 0) b = K v1 (iI ((c0 + duC P : Nat) : Int)) v3 (a', j', p', b.2.2.2) ∧ RA a' (duF t (A, J) P).1 ∧ RJ j' (duF t (A, J) P).2 ∧ RP p' (P.map tick) := by
  have hl := w.1
  refine loopP (F := fun n (z : BooS × Nat) i => fX3_letPass_L22 N K n v1 (iI (z.2 : Int)) v3 (iI (i : Int)) z.1) (I := fun z i => z.2 = c0 + duC (P.take i) ∧ RA z.1.1 (duF t (A, J) (P.take i)).1 ∧ RJ z.1.2.1 (duF t (A, J) (P.take i)).2 ∧ RP z.1.2.2.1 ((P.take i).map tick ++ P.drop i) ∧ z.1.2.2.2 = b.2.2.2) (m := P.length) (P := fun r => ∃ a' j' p', r = K v1 (iI ((c0 + duC P : Nat) : Int)) v3 (a', j', p', b.2.2.2) ∧ RA a' (duF t (A, J) P).1 ∧ RJ j' (duF t (A, J) P).2 ∧ RP p' (P.map tick)) ?_ ?_ N 0 (b, c0) (by omega) (by omega) ⟨rfl, hA, hJ, hP, rfl⟩
  · intro n ⟨z, c⟩ i hi ⟨h1, h2, h3, h4, h5⟩
    simp only at h1 h2 h3 h4 h5 ⊢
    obtain ⟨x, hx, hd, hm⟩ := drop_at hi
    have q := (w.2 x hm).1
    unfold WPe at q
    have htk : P.take (i + 1) = P.take i ++ [x] := by rw [List.take_add_one, hx]; rfl
    have htl : (P.take i).length = i := by rw [List.length_take]; omega
    have hlen : ((P.take i).map tick ++ P.drop i).length = P.length := by
      rw [List.length_append, List.length_map, ← List.length_append, List.take_append_drop]
    have hxi : ((P.take i).map tick ++ P.drop i)[i]? = some x := by
      rw [List.getElem?_append_right (by rw [List.length_map]; omega), List.length_map, htl, Nat.sub_self, hd]
      rfl
    have g1 := h4.2 i x hxi
    have g4 : z.2.2.1.2.2.2.2.2.2 = iI (P.length : Int) := by rw [h4.1, hlen]
    have e9 : (P.take (i + 1)).map tick ++ P.drop (i + 1) = ((P.take i).map tick ++ P.drop i).set i (tick x) := by
      rw [List.set_append_right _ _ (by rw [List.length_map]; omega), List.length_map, htl, Nat.sub_self, hd, htk, List.map_append, List.append_assoc]
      rfl
    right
    obtain ⟨d, hd9⟩ := Int.eq_ofNat_of_zero_le q.1
    obtain ⟨c9, hc9⟩ := Int.eq_ofNat_of_zero_le q.2.2.1
    obtain ⟨n1, n2⟩ := duF_n t (P.take i) (A, J)
    have n3 := duC_le (P.take i)
    have n4 : (P.take i).length ≤ 6 := by omega
    have hcd := c_comesDue N (p := z.2.2.1) (show i < 6 by omega) g1 (by omega)
    by_cases hdue : x.2.2.2.2.2 = 1
    · rw [decide_eq_true hdue] at hcd
      simp only [if_pos hdue] at hcd
      have hz5 : z.2.2.2.2.2.1 = iI (t : Int) := by rw [h5]; exact h0
      generalize hp9 : ((z.2.2.1.1, z.2.2.1.2.1, z.2.2.1.2.2.1, z.2.2.1.2.2.2.1, upd (upd z.2.2.1.2.2.2.2.1 i (iI 0)) i (iI x.2.2.2.1), upd z.2.2.1.2.2.2.2.2.1 i (iI (x.2.2.2.2.1 - 1)), z.2.2.1.2.2.2.2.2.2) : ProS) = p9 at hcd
      have hP9 : RP p9 ((P.take (i + 1)).map tick ++ P.drop (i + 1)) := by
        rw [e9, ← hp9]
        refine ⟨by rw [List.length_set]; exact h4.1, fun j y hy => ?_⟩
        rw [List.getElem?_set] at hy
        by_cases e : i = j
        · subst e
          rw [if_pos rfl, if_pos (by rw [hlen]; exact hi)] at hy
          cases hy
          have e1 : tick x = (x.1, x.2.1, x.2.2.1, x.2.2.2.1, x.2.2.2.2.1 - 1, x.2.2.2.1) := by unfold tick; rw [if_pos hdue]
          rw [e1]
          exact ⟨g1.1, g1.2.1, g1.2.2.1, g1.2.2.2.1, upd_eq, upd_eq⟩
        · rw [if_neg e] at hy
          have := h4.2 j y hy
          refine ⟨this.1, this.2.1, this.2.2.1, this.2.2.2.1, ?_, ?_⟩
          · dsimp only
            rw [upd_ne (by omega), upd_ne (by omega)]; exact this.2.2.2.2.1
          · dsimp only
            rw [upd_ne (by omega)]; exact this.2.2.2.2.2
      have f1 : p9.1 i = iI (d : Int) := by rw [← hp9, ← hd9]; exact g1.1
      have f2 : p9.2.1 i = iI (c9 : Int) := by rw [← hp9, ← hc9]; exact g1.2.1
      have f3 : p9.2.2.1 i = iI x.2.2.1 := by rw [← hp9]; exact g1.2.2.1
      obtain ⟨a', j', m1, m2, m3⟩ := c_makeEntry N (b := (z.1, z.2.1, p9, z.2.2.2)) h2 h3 (t := t) hz5 (by rw [n1]; exact hn) (by rw [n2]; show jN J + duC (P.take i) < 1000000; omega) (d := d) (c := c9) (by rw [n1]; show d < aN A; omega) (by rw [n1]; show c9 < aN A; omega) x.2.2.1
      have eF : duF t (A, J) (P.take (i + 1)) = (sMove (duF t (A, J) (P.take i)).1 d c9 x.2.2.1, sEnterJ (duF t (A, J) (P.take i)).2 d c9 x.2.2.1 t 0) := by
        rw [htk, duF_snoc]
        unfold duE
        rw [if_pos hdue, hd9, hc9]
        rfl
      refine ⟨((a', j', p9, z.2.2.2), c + 1), ?_, ?_, ?_, ?_, hP9, h5⟩
      · rw [fX3_letPass_L22, g4]
        simp (disch := omega) only [i_le]
        rw [if_neg (by omega), hcd]
        simp (disch := omega) only [xlet, xjoin, xnz_b0, xnz_b1, xnz_b, xcall_s, i_lit, i_add, i_sub, i_mul, i_neg, b_zero, c_pdeb N (show i < 6 by omega) f1, c_pcre N (show i < 6 by omega) f2, c_pamt N (show i < 6 by omega) f3, i_toL]
        rw [if_neg (by decide)]
        rw [show (Boos2 z p9) = (z.1, z.2.1, p9, z.2.2.2) from rfl, m1]
        simp only [xlet, xjoin, xnz_b0, xnz_b1, xnz_b, xcall_s, i_lit, i_add, i_sub, i_mul, i_neg, i_succ]
      · simp only
        rw [htk, duC_snoc, if_pos hdue, h1]
        omega
      · rw [eF]; exact m2
      · rw [eF]; exact m3
    · rw [decide_eq_false hdue] at hcd
      simp only [if_neg hdue] at hcd
      have eF : duF t (A, J) (P.take (i + 1)) = duF t (A, J) (P.take i) := by
        rw [htk, duF_snoc]
        unfold duE
        rw [if_neg hdue]
      refine ⟨((z.1, z.2.1, (z.2.2.1.1, z.2.2.1.2.1, z.2.2.1.2.2.1, z.2.2.1.2.2.2.1, upd z.2.2.1.2.2.2.2.1 i (iI (x.2.2.2.2.2 - 1)), z.2.2.1.2.2.2.2.2), z.2.2.2), c), ?_, ?_, ?_, ?_, ?_, h5⟩
      · rw [fX3_letPass_L22, g4]
        simp (disch := omega) only [i_le]
        rw [if_neg (by omega), hcd]
        simp only [xlet, xjoin, xnz_b0, xnz_b1, xnz_b, xcall_s, i_lit, i_add, i_sub, i_mul, i_neg, b_zero, i_succ]
        rw [if_pos trivial]
      · simp only
        rw [htk, duC_snoc, if_neg hdue, h1]
        omega
      · rw [eF]; exact h2
      · rw [eF]; exact h3
      · rw [e9]
        refine ⟨by rw [List.length_set]; exact h4.1, fun j y hy => ?_⟩
        rw [List.getElem?_set] at hy
        by_cases e : i = j
        · subst e
          rw [if_pos rfl, if_pos (by rw [hlen]; exact hi)] at hy
          cases hy
          rw [tick_pre hdue]
          exact ⟨g1.1, g1.2.1, g1.2.2.1, g1.2.2.2.1, upd_eq, g1.2.2.2.2.2⟩
        · rw [if_neg e] at hy
          have := h4.2 j y hy
          refine ⟨this.1, this.2.1, this.2.2.1, this.2.2.2.1, ?_, this.2.2.2.2.2⟩
          dsimp only
          rw [upd_ne (by omega)]; exact this.2.2.2.2.1
  · intro n ⟨z, c⟩ ⟨h1, h2, h3, h4, h5⟩
    simp only at h1 h2 h3 h4 h5 ⊢
    rw [List.take_of_length_le (Nat.le_refl _)] at h1 h2 h3 h4
    rw [List.drop_eq_nil_of_le (Nat.le_refl _), List.append_nil] at h4
    have g4 : z.2.2.1.2.2.2.2.2.2 = iI (P.length : Int) := by rw [h4.1, List.length_map]
    refine ⟨z.1, z.2.1, z.2.2.1, ?_, h2, h3, h4⟩
    rw [fX3_letPass_L22, g4]
    simp (disch := omega) only [i_le]
    rw [if_pos (by omega), h1, ← h5]
theorem tick_t {P : SP} {n : Nat} (w : WP P n) : ∀ x ∈ P.map tick, 0 ≤ x.2.2.2.2.1 ∧ x.2.2.2.2.1 ≤ 9 := by
  intro x hx
  obtain ⟨y, h3, rfl⟩ := List.mem_map.mp hx
  have := w.2 y h3
  unfold WPe at this
  unfold tick
  split
  · simp only; omega
  · simp only; omega
theorem c_letPass {N : Nat} (hN : 2000 ≤ N) (h : RBo b S) (w : WG S) {k : Nat} (hk : k ≤ 24) (hj : jN (gJ S) + 144 < 999990) (hh : gH S + 24 < 1000000) : ∃ b', fX3_letPass N (iI (k : Int)) b = some (iI (sHoursC k S : Int), b') ∧ RBo b' (sHours k S) := by
  unfold fX3_letPass xjoin
  refine loopP (F := fun n (z : BooS × Nat) i => fX3_letPass_L4 N _ n (iI (k : Int)) (iI (z.2 : Int)) (iI (i : Int)) z.1) (I := fun z i => z.2 = sHoursC i S ∧ z.2 ≤ 6 * i ∧ RBo z.1 (sHours i S)) (m := k) (P := fun r => ∃ b', r = some (iI (sHoursC k S : Int), b') ∧ RBo b' (sHours k S)) ?_ ?_ N 0 (b, 0) (by omega) (by omega) ⟨rfl, by simp, h⟩
  · intro n ⟨z, c⟩ i hi ⟨h1, h2, h3⟩
    simp only at h1 h2 h3 ⊢
    obtain ⟨w1, w2, w5, w3, w4⟩ := hours_W w i (by omega) (by omega)
    obtain ⟨r1, r2, r3, r4, r5, r6, r7⟩ := h3
    have wp := w1.2.2.1
    have wa := w1.1
    right
    have hd := duC_le (gP (sHours i S))
    have hl := wp.1
    obtain ⟨a', j', p', d1, d2, d3, d4⟩ := c_dueLoop (b := Boos5 z (iI ((gH (sHours i S) + 1 : Nat) : Int))) hN (fun (v1_5 : Int32) (v2_5 : Int32) (v3_5 : Int32) (s0_5 : BooS) => xcall (fX8_dropEnded N s0_5.2.2.1) fun q6 => xlet (v3_5 + (1)) fun x7 => fX3_letPass_L4 N (fun (v2_1 : Int32) (s0_1 : BooS) => some (v2_1, s0_1)) n v1_5 v2_5 x7 ((Boos2 s0_5 q6))) (iI (k : Int)) (iI (i : Int)) (t := gH (sHours i S) + 1) (c0 := c) (by omega) (by omega) r1 r2 r3 rfl wa.2.1 (by omega) wp
    obtain ⟨p2, f1, f2⟩ := c_dropEnded hN d4 (by rw [List.length_map]; exact hl) (tick_t wp)
    refine ⟨((a', j', p2, z.2.2.2.1, z.2.2.2.2.1, iI ((gH (sHours i S) + 1 : Nat) : Int), z.2.2.2.2.2.2), c + duC (gP (sHours i S))), ?_, ?_, ?_, d2, d3, f2, r4, r5, rfl, r7⟩
    · rw [fX3_letPass_L4]
      simp (disch := omega) only [i_le]
      rw [if_neg (by omega), r6]
      simp only [xlet, xjoin, i_lit, i_add, i_succ] at d1 ⊢
      rw [d1]
      simp only [f1, xcall_s]
    · simp only
      rw [h1]
      rfl
    · simp only
      omega
  · intro n ⟨z, c⟩ ⟨h1, h2, h3⟩
    simp only at h1 h2 h3 ⊢
    refine ⟨z, ?_, h3⟩
    rw [fX3_letPass_L4]
    simp (disch := omega) only [i_le]
    rw [if_pos (by omega), h1]
end CL
section MPa
variable {s : MS} {S : SG}
theorem WG.fr {S : SG} (h : WG S) : aN (gA S) ≤ 12 ∧ (gP S).length ≤ 6 ∧ (gL S).length ≤ 8 ∧ (gB S).1.length ≤ 10 := ⟨h.1.2.1, h.2.2.1.1, h.2.2.2.1.1, h.2.2.2.2.1.1⟩
theorem pre_GP {g : Nat → Int32} {t : Nat} {P : SP} (h : GP g t P) : GP g (t + 1) (P.map pre) := by
  refine ⟨by rw [List.length_map]; exact h.1, fun j x hx => ?_⟩
  rw [List.getElem?_map] at hx
  cases hy : P[j]? with
  | none => rw [hy] at hx; cases hx
  | some y =>
    rw [hy] at hx
    cases hx
    have := h.2 j y hy
    refine ⟨this.1, this.2.1, this.2.2.1, this.2.2.2.1, this.2.2.2.2.1, ?_⟩
    rw [this.2.2.2.2.2]
    congr 1
    show _ = ((t + 1 : Nat) : Int) + (y.2.2.2.2.2 - 1) - y.2.2.2.1
    omega
end MPa
