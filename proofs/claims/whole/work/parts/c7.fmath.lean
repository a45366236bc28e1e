/-! ===== floats: quotients that are numbers; both ways round the same ===== -/
theorem fz_d (r : UInt64) (h : FP.Core.dIsNaN r = false) : decide (r &&& 0x7fffffffffffffff ≤ 0x7ff0000000000000) = true := by
  have h1 := (FP.Core.ne_nan r).mp ((FP.Core.notNaN_iff r).mp h)
  refine decide_eq_true ?_
  rw [UInt64.le_iff_toNat_le, UInt64.toNat_and]
  show r.toNat &&& (2 ^ 63 - 1) ≤ 9218868437227405312
  rw [Nat.and_two_pow_sub_one_eq_mod]
  exact h1
theorem fz_f (r : UInt32) (h : FP.Core.fIsNaN r = false) : decide (r &&& 0x7fffffff ≤ 0x7f800000) = true := by
  have h1 := (FP.Core.ne_nan32 r).mp ((FP.Core.notNaN_iff32 r).mp h)
  refine decide_eq_true ?_
  rw [UInt32.le_iff_toNat_le, UInt32.toNat_and]
  show r.toNat &&& (2 ^ 31 - 1) ≤ 2139095040
  rw [Nat.and_two_pow_sub_one_eq_mod]
  exact h1
theorem fz_l2f {z : Int} (h : -2147483648 ≤ z ∧ z < 2147483648) : FP.l2f (iL z) = FP.i2f (iI z) := by
  show FP.Core.l2f (iL z) = FP.Core.i2f (iI z)
  unfold FP.Core.l2f FP.Core.i2f
  rw [l_int (by omega) (by omega), i_int h.1 h.2]
theorem fz_ddiv (a : Int32) {b : Int32} (hb : b ≠ 0) : FP.Core.dIsNaN (FP.ddiv (FP.i2d a) (FP.i2d b)) = false :=
  FP.Core.ddiv_out (FP.Core.i2d_fin a).notNaN (FP.Core.i2d_fin b) fun hz => FP.Core.i2d_ne_zero hb ((FP.Core.zero_bits2 _).mp hz)
theorem fz_fdiv (a : Int32) {b : Int32} (hb : b ≠ 0) : FP.Core.fIsNaN (FP.fdiv (FP.i2f a) (FP.i2f b)) = false :=
  FP.Core.fdiv_out ((FP.Core.notNaN_iff32 _).mpr (by obtain ⟨s, c, q, h⟩ := FP.Core.i2f_fin a; rw [h]; exact FP.Core.Datum.noConfusion)) (FP.Core.i2f_fin b) fun hz => FP.Core.i2f_ne_zero hb ((FP.Core.zero_bits232 _).mp hz)
theorem fz_f2d {r : UInt32} (h : FP.Core.fIsNaN r = false) : FP.Core.dIsNaN (FP.f2d r) = false := by
  unfold FP.f2d
  rw [h, if_neg (by decide)]
  exact FP.Core.f2d_out h
section FM
variable {N : Nat} {t : ThlS} {s : MS} {S : SG}
theorem e_meanPrice (hN : 2000 ≤ N) (hR : RBo t.1 S) (hM : GG s.1 S) (w : WG S) : RD [6] (fX12_meanPrice N t) (fX13_meanPrice N s) s ∧ ∀ v, fX12_meanPrice N t = some (0, v) → FP.Core.dIsNaN v = false := by
  have hl := w.fr.2.2.1
  have hr := lSum_rng w.2.2.2.1
  have e1 := c_costumes hN hR.2.2.2.1 hl
  have e2 := m_costumes hN hM.2.2.2.1 hl
  by_cases h : lSum (gL S) = 0
  · have c1 : fX12_meanPrice N t = some (6, 0) := by
      unfold fX12_meanPrice
      rw [e1, xcall_s, h, if_pos (show iI 0 = 0 from rfl)]
    refine ⟨rd_no 6 0 FP.dconst0 c1 (by decide) (by decide) ?_, fun v hv => ?_⟩
    · unfold fX13_meanPrice
      rw [e2, xcall_s, h]
      unfold xjoin
      dsimp only
      rw [if_pos (show iI 0 = 0 from rfl), if_neg (show ¬ (1 : Int32) = 0 by decide)]
      rfl
    · rw [c1] at hv
      exact absurd (congrArg Prod.fst (Option.some.inj hv)) (show ¬ (6 : Nat) = 0 by decide)
  · have hne : iI (lSum (gL S)) ≠ 0 := fun hh => h (by rw [show (0 : Int32) = iI 0 from rfl, i_eq (by omega) (by omega) (by omega) (by omega)] at hh; exact hh)
    have e3 := c_costByLots hN hR.2.2.2.1 w.2.2.2.1 (k := lSum (gL S)) (by omega)
    have hM2 : GL (Ms12 s 0).1 (gL S) := hM.2.2.2.1
    have e4 := m_costOfFirst hN hM2 w.2.2.2.1 (k := lSum (gL S)) (by omega)
    have hq := fz_ddiv (iI (sCost (lSum (gL S)) (gL S))) hne
    have hz := fz_d _ hq
    have c1 : fX12_meanPrice N t = some (0, FP.ddiv (FP.i2d (iI (sCost (lSum (gL S)) (gL S)))) (FP.i2d (iI (lSum (gL S))))) := by
      unfold fX12_meanPrice
      rw [e1, xcall_s, if_neg hne, e3, xcall_s, xnz_of hz]
    refine ⟨rd_ok _ c1 ?_, fun v hv => ?_⟩
    · unfold fX13_meanPrice
      rw [e2, xcall_s]
      unfold xjoin
      dsimp only
      rw [if_neg hne, if_pos rfl, e4, xcall_s, xnz_of hz]
      rfl
    · rw [c1] at hv
      cases Option.some.inj hv
      exact hq
theorem e_claimShare (hR : RBo t.1 S) (hM : GG s.1 S) (w : WG S) : RD [6] (fX12_claimShare N t) (fX13_claimShare N s) s ∧ ∀ v, fX12_claimShare N t = some (0, v) → FP.Core.dIsNaN (FP.f2d v) = false := by
  have h6 := w.wa.1
  have e0 : fX1_balanceAt N (0 : Int32) t.1.1 = some (iL (bal (gA S) 0)) := c_bal N hR.1 w.wa (i := 0) (by omega)
  have e1 : fX1_balanceAt N (1 : Int32) t.1.1 = some (iL (bal (gA S) 1)) := c_bal N hR.1 w.wa (i := 1) (by omega)
  have e2 : fX1_balanceAt N (2 : Int32) t.1.1 = some (iL (bal (gA S) 2)) := c_bal N hR.1 w.wa (i := 2) (by omega)
  have m0 : fX13_balanceOf N (0 : Int32) s = some (iI (bal (gA S) 0)) := m_bal N hM.1 w.wa (i := 0) (by omega)
  have m1 : fX13_balanceOf N (1 : Int32) s = some (iI (bal (gA S) 1)) := m_bal N hM.1 w.wa (i := 1) (by omega)
  have m2 : fX13_balanceOf N (2 : Int32) s = some (iI (bal (gA S) 2)) := m_bal N hM.1 w.wa (i := 2) (by omega)
  have hM2 : GA (Ms12 s 0).1 (gA S) := hM.1
  have m3 : fX13_balanceOf N (2 : Int32) (Ms12 s 0) = some (iI (bal (gA S) 2)) := m_bal N hM2 w.wa (i := 2) (by omega)
  have b0 := bal_rng w.wa (i := 0) (by omega)
  have b1 := bal_rng w.wa (i := 1) (by omega)
  have b2 := bal_rng w.wa (i := 2) (by omega)
  have es : iL (bal (gA S) 0) + iL (bal (gA S) 1) + iL (bal (gA S) 2) = iL (bal (gA S) 0 + bal (gA S) 1 + bal (gA S) 2) := by rw [l_add, l_add]
  have em : iI (bal (gA S) 0) + iI (bal (gA S) 1) + iI (bal (gA S) 2) = iI (bal (gA S) 0 + bal (gA S) 1 + bal (gA S) 2) := by rw [i_add, i_add]
  obtain ⟨z, hz⟩ : ∃ z, z = bal (gA S) 0 + bal (gA S) 1 + bal (gA S) 2 := ⟨_, rfl⟩
  rw [← hz] at es em
  have hzr : -805306368 ≤ z ∧ z < 805306368 := by omega
  have hc : (lg_cmp (iL z) 0 = 0) = (z = 0) := l_cmp0 (a := z) (b := 0) (by omega) (by omega) (by omega) (by omega)
  have hm : (iI z = 0) = (z = 0) := i_eq (a := z) (b := 0) (by omega) (by omega) (by omega) (by omega)
  have hcl : ∀ x : Int64, x = iL z → fX12_claimShare N t = (if (lg_cmp x 0) = 0 then some (6, 0) else xnz (decide ((FP.fdiv (FP.l2f (iL (bal (gA S) 2))) (FP.l2f x)) &&& 0x7fffffff ≤ 0x7f800000)) <| some (0, FP.fdiv (FP.l2f (iL (bal (gA S) 2))) (FP.l2f x))) := fun x hx => by
    unfold fX12_claimShare
    rw [e2, xcall_s, e0, xcall_s, e1, xcall_s]
    unfold xlet
    rw [es, ← hx]
  by_cases h : z = 0
  · have c1 : fX12_claimShare N t = some (6, 0) := by rw [hcl _ rfl, if_pos (by rw [hc]; exact h)]
    refine ⟨rd_no 6 0 FP.fconst0 c1 (by decide) (by decide) ?_, fun v hv => ?_⟩
    · unfold fX13_claimShare
      rw [m0, xcall_s, m1, xcall_s, m2, xcall_s]
      unfold xlet
      rw [em]
      unfold xjoin
      dsimp only
      rw [if_pos (by rw [hm]; exact h), if_neg (show ¬ (1 : Int32) = 0 by decide)]
      rfl
    · rw [c1] at hv
      exact absurd (congrArg Prod.fst (Option.some.inj hv)) (show ¬ (6 : Nat) = 0 by decide)
  · have hne : iI z ≠ 0 := by rw [Ne, hm]; exact h
    have hq := fz_fdiv (iI (bal (gA S) 2)) hne
    have hg := fz_f _ hq
    have c1 : fX12_claimShare N t = some (0, FP.fdiv (FP.i2f (iI (bal (gA S) 2))) (FP.i2f (iI z))) := by
      rw [hcl _ rfl, if_neg (by rw [hc]; exact h), fz_l2f (by omega), fz_l2f (by omega), xnz_of hg]
    refine ⟨rd_ok _ c1 ?_, fun v hv => ?_⟩
    · unfold fX13_claimShare
      rw [m0, xcall_s, m1, xcall_s, m2, xcall_s]
      unfold xlet
      rw [em]
      unfold xjoin
      dsimp only
      rw [if_neg hne, if_pos rfl, m3, xcall_s, xnz_of hg]
      rfl
    · rw [c1] at hv
      cases Option.some.inj hv
      exact fz_f2d hq
end FM
