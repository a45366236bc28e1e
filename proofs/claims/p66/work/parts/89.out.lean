/-! ===== the output: numbers and signs ===== -/
theorem ascii_all : (List.range 128).all (fun c => decide (((Int32.toUInt32 (iI (c : Int))) % 65536).toInt32 = iI (c : Int))) = true := by decide +kernel
theorem ascii {c : Int} (h : 0 ≤ c ∧ c < 128) : ((Int32.toUInt32 (iI c)) % 65536).toInt32 = iI c := by
  have := of_decide_eq_true (List.all_eq_true.mp ascii_all c.toNat (List.mem_range.mpr (by omega)))
  rw [Int.toNat_of_nonneg h.1] at this
  exact this
theorem p10_pos (k : Nat) : 0 < 10 ^ k := Nat.lt_of_lt_of_le (by decide : 0 < 10 ^ 0) (Nat.pow_le_pow_right (by omega) (Nat.zero_le k))
def dg (v k : Nat) : Int := ((v / 10 ^ k % 10 : Nat) : Int)
def dsN (v : Nat) : Nat → List Int
  | 0 => [48 + dg v 0]
  | k + 1 => (48 + dg v (k + 1)) :: dsN v k
def nmN (v : Nat) : Nat → List Int
  | 0 => [48 + dg v 0]
  | k + 1 => if dg v (k + 1) = 0 then nmN v k else dsN v (k + 1)
theorem dg_rng (v k : Nat) : 0 ≤ dg v k ∧ dg v k ≤ 9 := by unfold dg; omega
theorem dsN_len (v : Nat) : ∀ k, (dsN v k).length = k + 1 := by
  intro k
  induction k with
  | zero => rfl
  | succ k ih => rw [dsN, List.length_cons, ih]
theorem nmN_len (v : Nat) : ∀ k, (nmN v k).length ≤ k + 1 := by
  intro k
  induction k with
  | zero => exact Nat.le_refl _
  | succ k ih =>
    rw [nmN]
    split
    · omega
    · rw [dsN_len]; exact Nat.le_refl _
theorem ds_ch (v : Nat) : ∀ k, ∀ c ∈ dsN v k, 0 ≤ c ∧ c < 128 := by
  intro k
  induction k with
  | zero =>
    intro c hc
    have := dg_rng v 0
    rw [dsN] at hc
    simp at hc
    omega
  | succ k ih =>
    intro c hc
    have := dg_rng v (k + 1)
    rw [dsN] at hc
    rcases List.mem_cons.mp hc with h | h
    · omega
    · exact ih c h
theorem nm_ch (v : Nat) : ∀ k, ∀ c ∈ nmN v k, 0 ≤ c ∧ c < 128 := by
  intro k
  induction k with
  | zero => exact ds_ch v 0
  | succ k ih =>
    rw [nmN]
    split
    · exact ih
    · exact ds_ch v (k + 1)
theorem dg_0 {v k : Nat} (h : v < 10 ^ k) : dg v k = 0 := by
  unfold dg
  rw [Nat.div_eq_of_lt h]
  rfl
theorem nm_top {v : Nat} (j : Nat) : ∀ k, v < 10 ^ (j + 1) → nmN v (j + k) = nmN v j := by
  intro k
  induction k with
  | zero => intro _; rfl
  | succ k ih =>
    intro h
    rw [← Nat.add_assoc, nmN, if_pos, ih h]
    refine dg_0 (Nat.lt_of_lt_of_le h (Nat.pow_le_pow_right (by omega) (by omega)))
theorem nm_ds {v k : Nat} (h : k = 0 ∨ 10 ^ k ≤ v) (h2 : v < 10 ^ (k + 1)) : nmN v k = dsN v k := by
  cases k with
  | zero => rfl
  | succ k =>
    rw [nmN, if_neg]
    have h3 : 10 ^ (k + 1) ≤ v := by rcases h with h | h; omega; exact h
    have h4 : 0 < 10 ^ (k + 1) := p10_pos (k + 1)
    have h5 : 1 ≤ v / 10 ^ (k + 1) := (Nat.le_div_iff_mul_le h4).mpr (by omega)
    have h6 : v / 10 ^ (k + 1) < 10 := (Nat.div_lt_iff_lt_mul h4).mpr (by rw [Nat.pow_succ] at h2; omega)
    unfold dg
    omega
def OT (t : ThlS) (O : List Int) : Prop := t.2.2.2.2.2.2.1 = iI (O.length : Int) ∧ AC t.2.2.2.2.2.1 O
def sO (t t' : ThlS) : Prop := ∃ f x, t' = Thls6 (Thls5 t f) x
theorem sO.tr {t t' t2 : ThlS} (h : sO t t') (h2 : sO t' t2) : sO t t2 := by
  obtain ⟨f, x, e⟩ := h
  obtain ⟨f2, x2, e2⟩ := h2
  exact ⟨f2, x2, by rw [e2, e]⟩
theorem sO.rf (t : ThlS) : sO t t := ⟨t.2.2.2.2.2.1, t.2.2.2.2.2.2.1, rfl⟩
theorem c_putSign (N : Nat) {t : ThlS} {O : List Int} (h : OT t O) (hl : O.length < 37) {c : Int} (hc : 0 ≤ c ∧ c < 128) : ∃ t', fX12_putSign N (iI c) t = some t' ∧ OT t' (O ++ [c]) ∧ sO t t' := by
  refine ⟨Thls6 (Thls5 t (upd t.2.2.2.2.2.1 O.length (iI c))) (iI ((O.length + 1 : Nat) : Int)), ?_, ⟨?_, h.2.app c⟩, ⟨_, _, rfl⟩⟩
  · unfold fX12_putSign xjoin
    dsimp only
    rw [h.1, if_neg (by rw [i_lit, i_le (by omega) (by omega) (by omega) (by omega)]; omega), xrd_n (by omega) (by omega)]
    unfold xlet
    rw [vnar_char hc.1 (by omega), show (1 : Int32) = iI 1 from rfl, i_add]
    rfl
  · show iI ((O.length + 1 : Nat) : Int) = iI ((O ++ [c]).length : Int)
    rw [List.length_append]
    rfl
theorem p10_le {k : Nat} (h : k ≤ 18) : 10 ^ k ≤ 1000000000000000000 := Nat.le_trans (Nat.pow_le_pow_right (by omega) h) (by decide)
theorem p10_div (k : Nat) : 10 ^ (k + 1) / 10 = 10 ^ k := by rw [Nat.pow_succ, Nat.mul_div_cancel _ (by omega)]
theorem c_digit {v k : Nat} (hv : v < 1000000000) (hk : k ≤ 18) : iL (v : Int) / iL ((10 ^ k : Nat) : Int) - iL (v : Int) / iL ((10 ^ k : Nat) : Int) / 10 * 10 = iL (dg v k) := by
  have h1 := p10_le hk
  have h2 := p10_pos k
  have h3 : v / 10 ^ k ≤ v := Nat.div_le_self _ _
  rw [l_div (by omega) (by omega) (by omega) (by omega), show ((v : Int).tdiv ((10 ^ k : Nat) : Int)) = ((v / 10 ^ k : Nat) : Int) from rfl]
  unfold dg
  generalize v / 10 ^ k = q at *
  rw [show (10 : Int64) = iL 10 from rfl, l_div (by omega) (by omega) (by omega) (by omega), Int.tdiv_eq_ediv_of_nonneg (by omega), l_mul, l_sub]
  congr 1
  omega
section PN
variable {N : Nat}
theorem c_put (hN : 2000 ≤ N) (K : ThlS → Option ThlS) {v : Nat} (hv : v < 1000000000) : ∀ k n, k ≤ 18 → k + 2 ≤ n → ∀ (t : ThlS) (O : List Int), OT t O → O.length + (k + 1) ≤ 37 → (∃ t', fX12_putNumber_L7 N K n (iL (v : Int)) 1 (iL ((10 ^ k : Nat) : Int)) t = K t' ∧ OT t' (O ++ dsN v k) ∧ sO t t') ∧ (∃ t', fX12_putNumber_L7 N K n (iL (v : Int)) 0 (iL ((10 ^ k : Nat) : Int)) t = K t' ∧ OT t' (O ++ nmN v k) ∧ sO t t') := by
  intro k
  induction k with
  | zero =>
    intro n hk hn t O hO hl
    obtain ⟨n, rfl⟩ : ∃ m, n = m + 2 := ⟨n - 2, by omega⟩
    have hd := dg_rng v 0
    obtain ⟨t', e1, e2, e3⟩ := c_putSign N hO (by omega) (c := 48 + dg v 0) (by omega)
    have hz : ∀ f t, fX12_putNumber_L7 N K (n + 1) (iL (v : Int)) f (iL 0) t = K t := fun f t => by
      rw [fX12_putNumber_L7, if_pos (by decide)]
    have hs : fX12_putNumber_L7 N K (n + 2) (iL (v : Int)) 1 (iL ((10 ^ 0 : Nat) : Int)) t = K t' ∧ fX12_putNumber_L7 N K (n + 2) (iL (v : Int)) 0 (iL ((10 ^ 0 : Nat) : Int)) t = K t' := by
      constructor
      · rw [fX12_putNumber_L7, if_neg (by decide), xnz_d (by decide)]
        unfold xlet xjoin
        dsimp only
        rw [c_digit hv (by omega), if_neg (by decide), if_neg (by decide), show (48 : Int64) = iL 48 from rfl, l_add, l_toI, ascii (by omega), e1, xcall_s]
        exact hz _ _
      · rw [fX12_putNumber_L7, if_neg (by decide), xnz_d (by decide)]
        unfold xlet xjoin
        dsimp only
        rw [c_digit hv (by omega), if_pos rfl, if_pos (show lg_cmp (iL ((10 ^ 0 : Nat) : Int)) 1 = 0 by decide), if_neg (show ¬ (1 : Int32) = 0 by decide), show (48 : Int64) = iL 48 from rfl, l_add, l_toI, ascii (by omega), e1, xcall_s]
        split <;> exact hz _ _
    exact ⟨⟨t', hs.1, e2, e3⟩, ⟨t', hs.2, e2, e3⟩⟩
  | succ k ih =>
    intro n hk hn t O hO hl
    obtain ⟨n, rfl⟩ : ∃ m, n = m + 1 := ⟨n - 1, by omega⟩
    have hd := dg_rng v (k + 1)
    have hp := p10_le hk
    have hp2 := p10_pos (k + 1)
    have hdiv : iL ((10 ^ (k + 1) : Nat) : Int) / 10 = iL ((10 ^ k : Nat) : Int) := by
      rw [show (10 : Int64) = iL 10 from rfl, l_div (by omega) (by omega) (by omega) (by omega), Int.tdiv_eq_ediv_of_nonneg (by omega)]
      have := p10_div k
      congr 1
      omega
    have hp3 : 2 ≤ 10 ^ (k + 1) := by
      have := p10_pos k
      rw [Nat.pow_succ]; omega
    obtain ⟨t', e1, e2, e3⟩ := c_putSign N hO (by omega) (c := 48 + dg v (k + 1)) (by omega)
    obtain ⟨⟨t2, f1, f2, f3⟩, _⟩ := ih n (by omega) (by omega) t' _ e2 (by rw [List.length_append]; show O.length + 1 + _ ≤ _; omega)
    obtain ⟨_, ⟨t3, g1, g2, g3⟩⟩ := ih n (by omega) (by omega) t O hO (by omega)
    have hge : ¬ lg_cmp (iL ((10 ^ (k + 1) : Nat) : Int)) 0 ≤ 0 := by
      show ¬ lg_cmp (iL ((10 ^ (k + 1) : Nat) : Int)) (iL 0) ≤ iI 0
      rw [l_cmple (by omega) (by omega) (by omega) (by omega)]
      omega
    have hnz : ¬ iL ((10 ^ (k + 1) : Nat) : Int) = 0 := fun h => by
      have h9 : lg_cmp (iL ((10 ^ (k + 1) : Nat) : Int)) (iL 0) = iI 0 := by rw [h]; decide
      rw [l_cmp0 (by omega) (by omega) (by omega) (by omega)] at h9
      omega
    have hn1 : ¬ lg_cmp (iL ((10 ^ (k + 1) : Nat) : Int)) 1 = 0 := by
      show ¬ lg_cmp (iL ((10 ^ (k + 1) : Nat) : Int)) (iL 1) = iI 0
      rw [l_cmp0 (by omega) (by omega) (by omega) (by omega)]
      omega
    have hap : O ++ [48 + dg v (k + 1)] ++ dsN v k = O ++ dsN v (k + 1) := by rw [List.append_assoc]; rfl
    rw [hap] at f2
    refine ⟨⟨t2, ?_, f2, e3.tr f3⟩, ?_⟩
    · rw [fX12_putNumber_L7, if_neg hge, xnz_d hnz]
      unfold xlet xjoin
      dsimp only
      rw [c_digit hv (by omega), if_neg (by decide), if_neg (by decide), show (48 : Int64) = iL 48 from rfl, l_add, l_toI, ascii (by omega), e1, xcall_s, hdiv]
      exact f1
    · by_cases hz : dg v (k + 1) = 0
      · refine ⟨t3, ?_, by rw [nmN, if_pos hz]; exact g2, g3⟩
        rw [fX12_putNumber_L7, if_neg hge, xnz_d hnz]
        unfold xlet xjoin
        dsimp only
        rw [c_digit hv (by omega), if_pos rfl, hz, if_pos (show lg_cmp (iL 0) 0 = 0 by decide), if_neg hn1, if_pos rfl, hdiv]
        exact g1
      · have hd0 : ¬ lg_cmp (iL (dg v (k + 1))) 0 = 0 := by
          show ¬ lg_cmp (iL (dg v (k + 1))) (iL 0) = iI 0
          rw [l_cmp0 (by omega) (by omega) (by omega) (by omega)]
          exact hz
        refine ⟨t2, ?_, by rw [nmN, if_neg hz]; exact f2, e3.tr f3⟩
        rw [fX12_putNumber_L7, if_neg hge, xnz_d hnz]
        unfold xlet xjoin
        dsimp only
        rw [c_digit hv (by omega), if_pos rfl, if_neg hd0, if_neg (show ¬ (1 : Int32) = 0 by decide), show (48 : Int64) = iL 48 from rfl, l_add, l_toI, ascii (by omega), e1, xcall_s, hdiv]
        exact f1
theorem c_putNumber (hN : 2000 ≤ N) {v : Nat} (hv : v < 1000000000) {t : ThlS} {O : List Int} (hO : OT t O) (hl : O.length + 19 ≤ 37) : ∃ t', fX12_putNumber N (iL (v : Int)) t = some t' ∧ OT t' (O ++ nmN v 8) ∧ sO t t' := by
  obtain ⟨_, t', e1, e2, e3⟩ := c_put hN (fun s0 => some s0) hv 18 N (by omega) (by omega) t O hO hl
  rw [nm_top 8 10 hv] at e2
  exact ⟨t', e1, e2, e3⟩
end PN
/-! the reference -/
def OM (s : MS) (O : List Int) : Prop := s.2.2.2.2.2.2.2.2.2.2.2.1 = iI (O.length : Int) ∧ AC s.2.2.2.2.2.2.2.2.2.2.1 O
def mO (s s' : MS) : Prop := ∃ f x, s' = Ms11 (Ms10 s f) x
theorem mO.tr {s s' s2 : MS} (h : mO s s') (h2 : mO s' s2) : mO s s2 := by
  obtain ⟨f, x, e⟩ := h
  obtain ⟨f2, x2, e2⟩ := h2
  exact ⟨f2, x2, by rw [e2, e]⟩
theorem m_digit {v k : Nat} (hv : v < 1000000000) (hk : k ≤ 8) : iI (v : Int) / iI ((10 ^ k : Nat) : Int) - iI (v : Int) / iI ((10 ^ k : Nat) : Int) / 10 * 10 = iI (dg v k) := by
  have h1 : 10 ^ k ≤ 100000000 := Nat.le_trans (Nat.pow_le_pow_right (by omega) hk) (by decide)
  have h2 := p10_pos k
  have h3 : v / 10 ^ k ≤ v := Nat.div_le_self _ _
  rw [i_div (by omega) (by omega) (by omega) (by omega), show ((v : Int).tdiv ((10 ^ k : Nat) : Int)) = ((v / 10 ^ k : Nat) : Int) from rfl]
  unfold dg
  generalize v / 10 ^ k = q at *
  rw [show (10 : Int32) = iI 10 from rfl, i_div (by omega) (by omega) (by omega) (by omega), Int.tdiv_eq_ediv_of_nonneg (by omega), i_mul, i_sub]
  congr 1
  omega
section MN
variable {N : Nat}
end MN
/-! the entry in words -/
def eTx (e : Nat) (d c a k : Int) : List Int := nmN e 8 ++ [58] ++ nmN d.toNat 8 ++ [60] ++ nmN c.toNat 8 ++ [61] ++ nmN a.toNat 8 ++ (if k = 1 then [33] else [])
theorem nm_len {v k : Nat} (h : v < 10 ^ (k + 1)) (hk : k ≤ 8) : (nmN v 8).length ≤ k + 1 := by
  have := nm_top (v := v) k (8 - k) h
  rw [show k + (8 - k) = 8 by omega] at this
  rw [this]
  exact nmN_len v k
theorem sO.rt {t t' : ThlS} (h : sO t t') {r : Nat → BooS} {W : SO} {O : List Int} (hR : RT t r W) (hO : OT t' O) : RT t' r (oS W, oH W, oV W, oT W, oE W, oF W, O) := by
  obtain ⟨f, x, e⟩ := h
  subst e
  obtain ⟨h1, h2, h3, h4, h5, h6, h7⟩ := hR
  exact ⟨h1, h2, h3, h4, hO, h6, h7⟩
theorem mO.rm {s s' : MS} (h : mO s s') {W : SO} {O : List Int} (hR : RM s W) (hO : OM s' O) : RM s' (oS W, oH W, oV W, oT W, oE W, oF W, O) := by
  obtain ⟨f, x, e⟩ := h
  subst e
  obtain ⟨h1, h2, h3, h4, h5, h6, h7, h8⟩ := hR
  exact ⟨h1, h2, h3, h4, h5, h6, h7, hO⟩
section WE
variable {N : Nat} {t : ThlS} {r : Nat → BooS} {s : MS} {W : SO} {a b : Nat}
end WE
