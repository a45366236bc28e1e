/-! ===== the output: numbers and signs ===== -/
theorem ascii_all : (List.range 128).all (fun c => decide (((Int32.toUInt32 (iI (c : Int))) % 65536).toInt32 = iI (c : Int))) = true := by decide +kernel
theorem ascii {c : Int} (h : 0 ≤ c ∧ c < 128) : ((Int32.toUInt32 (iI c)) % 65536).toInt32 = iI c := by
  have := of_decide_eq_true (List.all_eq_true.mp ascii_all c.toNat (List.mem_range.mpr (by omega)))
  rw [Int.toNat_of_nonneg h.1] at this
  exact this
theorem p10_pos (k : Nat) : 0 < 10 ^ k := Nat.lt_of_lt_of_le (by decide : 0 < 10 ^ 0) (Nat.pow_le_pow_right (by omega) (Nat.zero_le k))
def dg (v k : Nat) : Int := ((v / 10 ^ k % 10 : Nat) : Int)
def dsN (v : Nat) : Nat → List Int
  | 0 => [48 + dg v 0]
  | k + 1 => (48 + dg v (k + 1)) :: dsN v k
def nmN (v : Nat) : Nat → List Int
  | 0 => [48 + dg v 0]
  | k + 1 => if dg v (k + 1) = 0 then nmN v k else dsN v (k + 1)
theorem dg_rng (v k : Nat) : 0 ≤ dg v k ∧ dg v k ≤ 9 := by unfold dg; omega
theorem dsN_len (v : Nat) : ∀ k, (dsN v k).length = k + 1 := by
  intro k
  induction k with
  | zero => rfl
  | succ k ih => rw [dsN, List.length_cons, ih]
theorem nmN_len (v : Nat) : ∀ k, (nmN v k).length ≤ k + 1 := by
  intro k
  induction k with
  | zero => exact Nat.le_refl _
  | succ k ih =>
    rw [nmN]
    split
    · omega
    · rw [dsN_len]; exact Nat.le_refl _
theorem ds_ch (v : Nat) : ∀ k, ∀ c ∈ dsN v k, 0 ≤ c ∧ c < 128 := by
  intro k
  induction k with
  | zero =>
    intro c hc
    have := dg_rng v 0
    rw [dsN] at hc
    simp at hc
    omega
  | succ k ih =>
    intro c hc
    have := dg_rng v (k + 1)
    rw [dsN] at hc
    rcases List.mem_cons.mp hc with h | h
    · omega
    · exact ih c h
theorem nm_ch (v : Nat) : ∀ k, ∀ c ∈ nmN v k, 0 ≤ c ∧ c < 128 := by
  intro k
  induction k with
  | zero => exact ds_ch v 0
  | succ k ih =>
    rw [nmN]
    split
    · exact ih
    · exact ds_ch v (k + 1)
theorem dg_0 {v k : Nat} (h : v < 10 ^ k) : dg v k = 0 := by
  unfold dg
  rw [Nat.div_eq_of_lt h]
  rfl
/-- leading zeros are left out -/
theorem nm_top {v : Nat} (j : Nat) : ∀ k, v < 10 ^ (j + 1) → nmN v (j + k) = nmN v j := by
  intro k
  induction k with
  | zero => intro _; rfl
  | succ k ih =>
    intro h
    rw [← Nat.add_assoc, nmN, if_pos, ih h]
    refine dg_0 (Nat.lt_of_lt_of_le h (Nat.pow_le_pow_right (by omega) (by omega)))
theorem nm_ds {v k : Nat} (h : k = 0 ∨ 10 ^ k ≤ v) (h2 : v < 10 ^ (k + 1)) : nmN v k = dsN v k := by
  cases k with
  | zero => rfl
  | succ k =>
    rw [nmN, if_neg]
    have h3 : 10 ^ (k + 1) ≤ v := by rcases h with h | h; omega; exact h
    have h4 : 0 < 10 ^ (k + 1) := p10_pos (k + 1)
    have h5 : 1 ≤ v / 10 ^ (k + 1) := (Nat.le_div_iff_mul_le h4).mpr (by omega)
    have h6 : v / 10 ^ (k + 1) < 10 := (Nat.div_lt_iff_lt_mul h4).mpr (by rw [Nat.pow_succ] at h2; omega)
    unfold dg
    omega
def OT (t : ThlS) (O : List Int) : Prop := t.2.2.2.2.2.2.1 = iI (O.length : Int) ∧ AC t.2.2.2.2.2.1 O
def sO (t t' : ThlS) : Prop := ∃ f x, t' = Thls6 (Thls5 t f) x
theorem sO.tr {t t' t2 : ThlS} (h : sO t t') (h2 : sO t' t2) : sO t t2 := by
  obtain ⟨f, x, e⟩ := h
  obtain ⟨f2, x2, e2⟩ := h2
  exact ⟨f2, x2, by rw [e2, e]⟩
theorem sO.rf (t : ThlS) : sO t t := ⟨t.2.2.2.2.2.1, t.2.2.2.2.2.2.1, rfl⟩
theorem c_putSign (N : Nat) {t : ThlS} {O : List Int} (h : OT t O) (hl : O.length < 37) {c : Int} (hc : 0 ≤ c ∧ c < 128) : ∃ t', fX12_putSign N (iI c) t = some t' ∧ OT t' (O ++ [c]) ∧ sO t t' := by
  refine ⟨Thls6 (Thls5 t (upd t.2.2.2.2.2.1 O.length (iI c))) (iI ((O.length + 1 : Nat) : Int)), ?_, ⟨?_, h.2.app c⟩, ⟨_, _, rfl⟩⟩
  · unfold fX12_putSign xjoin
    dsimp only
    rw [h.1, if_neg (by rw [i_lit, i_le (by omega) (by omega) (by omega) (by omega)]; omega), xrd_n (by omega) (by omega)]
    unfold xlet
    rw [vnar_char hc.1 (by omega), show (1 : Int32) = iI 1 from rfl, i_add]
    rfl
  · show iI ((O.length + 1 : Nat) : Int) = iI ((O ++ [c]).length : Int)
    rw [List.length_append]
    rfl
theorem p10_le {k : Nat} (h : k ≤ 18) : 10 ^ k ≤ 1000000000000000000 := Nat.le_trans (Nat.pow_le_pow_right (by omega) h) (by decide)
theorem p10_div (k : Nat) : 10 ^ (k + 1) / 10 = 10 ^ k := by rw [Nat.pow_succ, Nat.mul_div_cancel _ (by omega)]
theorem c_digit {v k : Nat} (hv : v < 1000000000) (hk : k ≤ 18) : iL (v : Int) / iL ((10 ^ k : Nat) : Int) - iL (v : Int) / iL ((10 ^ k : Nat) : Int) / 10 * 10 = iL (dg v k) := by
  have h1 := p10_le hk
  have h2 := p10_pos k
  have h3 : v / 10 ^ k ≤ v := Nat.div_le_self _ _
  rw [l_div (by omega) (by omega) (by omega) (by omega), show ((v : Int).tdiv ((10 ^ k : Nat) : Int)) = ((v / 10 ^ k : Nat) : Int) from rfl]
  unfold dg
  generalize v / 10 ^ k = q at *
  rw [show (10 : Int64) = iL 10 from rfl, l_div (by omega) (by omega) (by omega) (by omega), Int.tdiv_eq_ediv_of_nonneg (by omega), l_mul, l_sub]
  congr 1
  omega
section PN
variable {N : Nat}
theorem c_put (hN : 2000 ≤ N) (K : ThlS → Option ThlS) {v : Nat} (hv : v < 1000000000) : ∀ k n, k ≤ 18 → k + 2 ≤ n → ∀ (t : ThlS) (O : List Int), OT t O → O.length + (k + 1) ≤ 37 → (∃ t', fX12_putNumber_L7 N K n (iL (v : Int)) 1 (iL ((10 ^ k : Nat) : Int)) t = K t' ∧ OT t' (O ++ dsN v k) ∧ sO t t') ∧ (∃ t', fX12_putNumber_L7 N K n (iL (v : Int)) 0 (iL ((10 ^ k : Nat) : Int)) t = K t' ∧ OT t' (O ++ nmN v k) ∧ sO t t') := by
  intro k
  induction k with
  | zero =>
    intro n hk hn t O hO hl
    obtain ⟨n, rfl⟩ : ∃ m, n = m + 2 := ⟨n - 2, by omega⟩
    have hd := dg_rng v 0
    obtain ⟨t', e1, e2, e3⟩ := c_putSign N hO (by omega) (c := 48 + dg v 0) (by omega)
    have hz : ∀ f t, fX12_putNumber_L7 N K (n + 1) (iL (v : Int)) f (iL 0) t = K t := fun f t => by
      rw [fX12_putNumber_L7, if_pos (by decide)]
    have hs : fX12_putNumber_L7 N K (n + 2) (iL (v : Int)) 1 (iL ((10 ^ 0 : Nat) : Int)) t = K t' ∧ fX12_putNumber_L7 N K (n + 2) (iL (v : Int)) 0 (iL ((10 ^ 0 : Nat) : Int)) t = K t' := by
      constructor
      · rw [fX12_putNumber_L7, if_neg (by decide), xnz_d (by decide)]
        unfold xlet xjoin
        dsimp only
        rw [c_digit hv (by omega), if_neg (by decide), if_neg (by decide), show (48 : Int64) = iL 48 from rfl, l_add, l_toI, ascii (by omega), e1, xcall_s]
        exact hz _ _
      · rw [fX12_putNumber_L7, if_neg (by decide), xnz_d (by decide)]
        unfold xlet xjoin
        dsimp only
        rw [c_digit hv (by omega), if_pos rfl, if_pos (show lg_cmp (iL ((10 ^ 0 : Nat) : Int)) 1 = 0 by decide), if_neg (show ¬ (1 : Int32) = 0 by decide), show (48 : Int64) = iL 48 from rfl, l_add, l_toI, ascii (by omega), e1, xcall_s]
        split <;> exact hz _ _
    exact ⟨⟨t', hs.1, e2, e3⟩, ⟨t', hs.2, e2, e3⟩⟩
  | succ k ih =>
    intro n hk hn t O hO hl
    obtain ⟨n, rfl⟩ : ∃ m, n = m + 1 := ⟨n - 1, by omega⟩
    have hd := dg_rng v (k + 1)
    have hp := p10_le hk
    have hp2 := p10_pos (k + 1)
    have hdiv : iL ((10 ^ (k + 1) : Nat) : Int) / 10 = iL ((10 ^ k : Nat) : Int) := by
      rw [show (10 : Int64) = iL 10 from rfl, l_div (by omega) (by omega) (by omega) (by omega), Int.tdiv_eq_ediv_of_nonneg (by omega)]
      have := p10_div k
      congr 1
      omega
    have hp3 : 2 ≤ 10 ^ (k + 1) := by
      have := p10_pos k
      rw [Nat.pow_succ]; omega
    obtain ⟨t', e1, e2, e3⟩ := c_putSign N hO (by omega) (c := 48 + dg v (k + 1)) (by omega)
    obtain ⟨⟨t2, f1, f2, f3⟩, _⟩ := ih n (by omega) (by omega) t' _ e2 (by rw [List.length_append]; show O.length + 1 + _ ≤ _; omega)
    obtain ⟨_, ⟨t3, g1, g2, g3⟩⟩ := ih n (by omega) (by omega) t O hO (by omega)
    have hge : ¬ lg_cmp (iL ((10 ^ (k + 1) : Nat) : Int)) 0 ≤ 0 := by
      show ¬ lg_cmp (iL ((10 ^ (k + 1) : Nat) : Int)) (iL 0) ≤ iI 0
      rw [l_cmple (by omega) (by omega) (by omega) (by omega)]
      omega
    have hnz : ¬ iL ((10 ^ (k + 1) : Nat) : Int) = 0 := fun h => by
      have h9 : lg_cmp (iL ((10 ^ (k + 1) : Nat) : Int)) (iL 0) = iI 0 := by rw [h]; decide
      rw [l_cmp0 (by omega) (by omega) (by omega) (by omega)] at h9
      omega
    have hn1 : ¬ lg_cmp (iL ((10 ^ (k + 1) : Nat) : Int)) 1 = 0 := by
      show ¬ lg_cmp (iL ((10 ^ (k + 1) : Nat) : Int)) (iL 1) = iI 0
      rw [l_cmp0 (by omega) (by omega) (by omega) (by omega)]
      omega
    have hap : O ++ [48 + dg v (k + 1)] ++ dsN v k = O ++ dsN v (k + 1) := by rw [List.append_assoc]; rfl
    rw [hap] at f2
    refine ⟨⟨t2, ?_, f2, e3.tr f3⟩, ?_⟩
    · rw [fX12_putNumber_L7, if_neg hge, xnz_d hnz]
      unfold xlet xjoin
      dsimp only
      rw [c_digit hv (by omega), if_neg (by decide), if_neg (by decide), show (48 : Int64) = iL 48 from rfl, l_add, l_toI, ascii (by omega), e1, xcall_s, hdiv]
      exact f1
    · by_cases hz : dg v (k + 1) = 0
      · refine ⟨t3, ?_, by rw [nmN, if_pos hz]; exact g2, g3⟩
        rw [fX12_putNumber_L7, if_neg hge, xnz_d hnz]
        unfold xlet xjoin
        dsimp only
        rw [c_digit hv (by omega), if_pos rfl, hz, if_pos (show lg_cmp (iL 0) 0 = 0 by decide), if_neg hn1, if_pos rfl, hdiv]
        exact g1
      · have hd0 : ¬ lg_cmp (iL (dg v (k + 1))) 0 = 0 := by
          show ¬ lg_cmp (iL (dg v (k + 1))) (iL 0) = iI 0
          rw [l_cmp0 (by omega) (by omega) (by omega) (by omega)]
          exact hz
        refine ⟨t2, ?_, by rw [nmN, if_neg hz]; exact f2, e3.tr f3⟩
        rw [fX12_putNumber_L7, if_neg hge, xnz_d hnz]
        unfold xlet xjoin
        dsimp only
        rw [c_digit hv (by omega), if_pos rfl, if_neg hd0, if_neg (show ¬ (1 : Int32) = 0 by decide), show (48 : Int64) = iL 48 from rfl, l_add, l_toI, ascii (by omega), e1, xcall_s, hdiv]
        exact f1
theorem c_putNumber (hN : 2000 ≤ N) {v : Nat} (hv : v < 1000000000) {t : ThlS} {O : List Int} (hO : OT t O) (hl : O.length + 19 ≤ 37) : ∃ t', fX12_putNumber N (iL (v : Int)) t = some t' ∧ OT t' (O ++ nmN v 8) ∧ sO t t' := by
  obtain ⟨_, t', e1, e2, e3⟩ := c_put hN (fun s0 => some s0) hv 18 N (by omega) (by omega) t O hO hl
  rw [nm_top 8 10 hv] at e2
  exact ⟨t', e1, e2, e3⟩
end PN
/-! the reference -/
def OM (s : MS) (O : List Int) : Prop := s.2.2.2.2.2.2.2.2.2.2.2.1 = iI (O.length : Int) ∧ AC s.2.2.2.2.2.2.2.2.2.2.1 O
def mO (s s' : MS) : Prop := ∃ f x, s' = Ms11 (Ms10 s f) x
theorem mO.tr {s s' s2 : MS} (h : mO s s') (h2 : mO s' s2) : mO s s2 := by
  obtain ⟨f, x, e⟩ := h
  obtain ⟨f2, x2, e2⟩ := h2
  exact ⟨f2, x2, by rw [e2, e]⟩
theorem m_writes (N : Nat) {s : MS} {O : List Int} (h : OM s O) (hl : O.length < 60) {c : Int} (hc : 0 ≤ c ∧ c < 128) : ∃ s', fX13_writes N (iI c) s = some s' ∧ OM s' (O ++ [c]) ∧ mO s s' := by
  refine ⟨Ms11 (Ms10 s (upd s.2.2.2.2.2.2.2.2.2.2.1 O.length (iI c))) (iI ((O.length + 1 : Nat) : Int)), ?_, ⟨?_, h.2.app c⟩, ⟨_, _, rfl⟩⟩
  · unfold fX13_writes
    rw [h.1, xrd_n (by omega) (by omega), ascii hc, vnar_char hc.1 (by omega), show (1 : Int32) = iI 1 from rfl, i_add]
    rfl
  · show iI ((O.length + 1 : Nat) : Int) = iI ((O ++ [c]).length : Int)
    rw [List.length_append]
    rfl
theorem m_digit {v k : Nat} (hv : v < 1000000000) (hk : k ≤ 8) : iI (v : Int) / iI ((10 ^ k : Nat) : Int) - iI (v : Int) / iI ((10 ^ k : Nat) : Int) / 10 * 10 = iI (dg v k) := by
  have h1 : 10 ^ k ≤ 100000000 := Nat.le_trans (Nat.pow_le_pow_right (by omega) hk) (by decide)
  have h2 := p10_pos k
  have h3 : v / 10 ^ k ≤ v := Nat.div_le_self _ _
  rw [i_div (by omega) (by omega) (by omega) (by omega), show ((v : Int).tdiv ((10 ^ k : Nat) : Int)) = ((v / 10 ^ k : Nat) : Int) from rfl]
  unfold dg
  generalize v / 10 ^ k = q at *
  rw [show (10 : Int32) = iI 10 from rfl, i_div (by omega) (by omega) (by omega) (by omega), Int.tdiv_eq_ediv_of_nonneg (by omega), i_mul, i_sub]
  congr 1
  omega
section MN
variable {N : Nat}
theorem m_dput (K : MS → Option MS) {v : Nat} (hv : v < 1000000000) : ∀ k n, k ≤ 8 → k + 2 ≤ n → ∀ (s : MS) (O : List Int), OM s O → O.length + (k + 1) ≤ 60 → ∃ s', fX13_writesNumber_L21 N K n (iI (v : Int)) (iI ((10 ^ k : Nat) : Int)) s = K s' ∧ OM s' (O ++ dsN v k) ∧ mO s s' := by
  intro k
  induction k with
  | zero =>
    intro n hk hn s O hO hl
    obtain ⟨n, rfl⟩ : ∃ m, n = m + 2 := ⟨n - 2, by omega⟩
    have hd := dg_rng v 0
    obtain ⟨s', e1, e2, e3⟩ := m_writes N hO (by omega) (c := 48 + dg v 0) (by omega)
    refine ⟨s', ?_, e2, e3⟩
    rw [fX13_writesNumber_L21, if_neg (by decide), xnz_d (by decide), m_digit hv (by omega), show (48 : Int32) = iI 48 from rfl, i_add, e1, xcall_s]
    show fX13_writesNumber_L21 N K (n + 1) (iI (v : Int)) (iI ((10 ^ 0 : Nat) : Int) / 10) s' = K s'
    rw [fX13_writesNumber_L21, if_pos (by decide)]
  | succ k ih =>
    intro n hk hn s O hO hl
    obtain ⟨n, rfl⟩ : ∃ m, n = m + 1 := ⟨n - 1, by omega⟩
    have hd := dg_rng v (k + 1)
    have hp : 10 ^ (k + 1) ≤ 100000000 := Nat.le_trans (Nat.pow_le_pow_right (by omega) hk) (by decide)
    have hp2 := p10_pos (k + 1)
    have hdiv : iI ((10 ^ (k + 1) : Nat) : Int) / 10 = iI ((10 ^ k : Nat) : Int) := by
      rw [show (10 : Int32) = iI 10 from rfl, i_div (by omega) (by omega) (by omega) (by omega), Int.tdiv_eq_ediv_of_nonneg (by omega)]
      have := p10_div k
      congr 1
      omega
    obtain ⟨s', e1, e2, e3⟩ := m_writes N hO (by omega) (c := 48 + dg v (k + 1)) (by omega)
    obtain ⟨s2, f1, f2, f3⟩ := ih n (by omega) (by omega) s' _ e2 (by rw [List.length_append]; show O.length + 1 + _ ≤ _; omega)
    have hap : O ++ [48 + dg v (k + 1)] ++ dsN v k = O ++ dsN v (k + 1) := by rw [List.append_assoc]; rfl
    rw [hap] at f2
    refine ⟨s2, ?_, f2, e3.tr f3⟩
    rw [fX13_writesNumber_L21, if_neg (by rw [i_lit, i_le (by omega) (by omega) (by omega) (by omega)]; omega), xnz_d (by rw [i_lit, i_eq (by omega) (by omega) (by omega) (by omega)]; omega), m_digit hv (by omega), show (48 : Int32) = iI 48 from rfl, i_add, e1, xcall_s, hdiv]
    exact f1
theorem m_unit (K : Int32 → Int32 → MS → Option MS) {v : Nat} : ∀ k n, k ≤ 8 → k + 1 ≤ n → v < 10 ^ (k + 1) → ∀ s : MS, ∃ j, j ≤ k ∧ (j = 0 ∨ 10 ^ j ≤ v) ∧ v < 10 ^ (j + 1) ∧ fX13_writesNumber_L3 N K n (iI (v : Int)) (iI ((10 ^ k : Nat) : Int)) s = K (iI (v : Int)) (iI ((10 ^ j : Nat) : Int)) s := by
  intro k
  induction k with
  | zero =>
    intro n hk hn hv s
    obtain ⟨n, rfl⟩ : ∃ m, n = m + 1 := ⟨n - 1, by omega⟩
    exact ⟨0, by omega, .inl rfl, hv, by rw [fX13_writesNumber_L3, if_pos (by decide)]⟩
  | succ k ih =>
    intro n hk hn hv s
    obtain ⟨n, rfl⟩ : ∃ m, n = m + 1 := ⟨n - 1, by omega⟩
    have hp : 10 ^ (k + 1) ≤ 100000000 := Nat.le_trans (Nat.pow_le_pow_right (by omega) hk) (by decide)
    have hv9 : v < 1000000000 := Nat.lt_of_lt_of_le hv (Nat.le_trans (Nat.pow_le_pow_right (n := 10) (by omega) (show k + 1 + 1 ≤ 9 by omega)) (by decide))
    have hp3 : 2 ≤ 10 ^ (k + 1) := by
      have := p10_pos k
      rw [Nat.pow_succ]; omega
    have hdiv : iI ((10 ^ (k + 1) : Nat) : Int) / 10 = iI ((10 ^ k : Nat) : Int) := by
      rw [show (10 : Int32) = iI 10 from rfl, i_div (by omega) (by omega) (by omega) (by omega), Int.tdiv_eq_ediv_of_nonneg (by omega)]
      have := p10_div k
      congr 1
      omega
    by_cases h : 10 ^ (k + 1) ≤ v
    · refine ⟨k + 1, by omega, .inr h, hv, ?_⟩
      rw [fX13_writesNumber_L3, if_neg (by rw [show (1 : Int32) = iI 1 from rfl, i_le (by omega) (by omega) (by omega) (by omega)]; omega), if_pos (by rw [i_le (by omega) (by omega) (by omega) (by omega)]; omega)]
    · obtain ⟨j, j1, j2, j3, j4⟩ := ih n (by omega) (by omega) (by omega) s
      refine ⟨j, by omega, j2, j3, ?_⟩
      rw [fX13_writesNumber_L3, if_neg (by rw [show (1 : Int32) = iI 1 from rfl, i_le (by omega) (by omega) (by omega) (by omega)]; omega), if_neg (by rw [i_le (by omega) (by omega) (by omega) (by omega)]; omega), hdiv]
      exact j4
theorem m_writesNumber (hN : 2000 ≤ N) {v : Nat} (hv : v < 1000000000) {s : MS} {O : List Int} (hO : OM s O) (hl : O.length + 9 ≤ 60) : ∃ s', fX13_writesNumber N (iI (v : Int)) s = some s' ∧ OM s' (O ++ nmN v 8) ∧ mO s s' := by
  unfold fX13_writesNumber xjoin
  dsimp only
  obtain ⟨j, j1, j2, j3, j4⟩ := m_unit (N := N) (fun v1_1 v2_1 s0_1 => fX13_writesNumber_L21 N (fun s0_2 => some s0_2) N v1_1 v2_1 s0_1) (v := v) 8 N (by omega) (by omega) hv s
  obtain ⟨s', e1, e2, e3⟩ := m_dput (N := N) (fun s0_2 => some s0_2) hv j N j1 (by omega) s O hO (by omega)
  refine ⟨s', ?_, ?_, e3⟩
  · exact j4.trans e1
  · have h := nm_top (v := v) j (8 - j) j3
    rw [show j + (8 - j) = 8 by omega] at h
    rw [h, nm_ds j2 j3]
    exact e2
end MN
/-! the entry in words -/
def eTx (e : Nat) (d c a k : Int) : List Int := nmN e 8 ++ [58] ++ nmN d.toNat 8 ++ [60] ++ nmN c.toNat 8 ++ [61] ++ nmN a.toNat 8 ++ (if k = 1 then [33] else [])
theorem nm_len {v k : Nat} (h : v < 10 ^ (k + 1)) (hk : k ≤ 8) : (nmN v 8).length ≤ k + 1 := by
  have := nm_top (v := v) k (8 - k) h
  rw [show k + (8 - k) = 8 by omega] at this
  rw [this]
  exact nmN_len v k
theorem sO.rt {t t' : ThlS} (h : sO t t') {r : Nat → BooS} {W : SO} {O : List Int} (hR : RT t r W) (hO : OT t' O) : RT t' r (oS W, oH W, oV W, oT W, oE W, oF W, O) := by
  obtain ⟨f, x, e⟩ := h
  subst e
  obtain ⟨h1, h2, h3, h4, h5, h6, h7⟩ := hR
  exact ⟨h1, h2, h3, h4, hO, h6, h7⟩
theorem mO.rm {s s' : MS} (h : mO s s') {W : SO} {O : List Int} (hR : RM s W) (hO : OM s' O) : RM s' (oS W, oH W, oV W, oT W, oE W, oF W, O) := by
  obtain ⟨f, x, e⟩ := h
  subst e
  obtain ⟨h1, h2, h3, h4, h5, h6, h7, h8⟩ := hR
  exact ⟨h1, h2, h3, h4, h5, h6, h7, hO⟩
section WE
variable {N : Nat} {t : ThlS} {r : Nat → BooS} {s : MS} {W : SO} {a b : Nat}
theorem s_writeEntry (hN : 2000 ≤ N) (hR : RT t r W) (hM : RM s W) (hw : WO a b W) {z : Int} (hz : -2147483648 ≤ z ∧ z < 2147483648) : ∃ q v v' t' s' W', fX12_writeEntry N (iI z) t = some (q, v, t') ∧ fX13_writeEntry N (iI z) s = some (v', s') ∧ s'.2.2.2.2.2.2.2.2.2.2.2.2.1 = iI (lawC [2] q : Int) ∧ (q = 0 ∨ q ∈ [2]) ∧ (q = 0 → v = v') ∧ RT t' r W' ∧ RM s' W' ∧ WO a b W' ∧ oT W' = oT W := by
  have w := hw.1.1
  have hc := c_checkEnt N hR.1 w hz
  have hp := m_placeOf N hM.1 w hz
  have hk := jK_le (gJ (oS W))
  have hk2 : jK (gJ (oS W)) ≤ jN (gJ (oS W)) := by unfold jK; omega
  have hj := w.2.1.1
  by_cases h : (jN (gJ (oS W)) : Int) - jK (gJ (oS W)) ≤ z ∧ z < jN (gJ (oS W))
  · have q := w.2.1.2 z.toNat (by omega) (by omega)
    obtain ⟨q1, q2, q3, q4, q5, q6, q7, q8, q9, q10, q11⟩ := q
    have hn := w.1.2.1
    have hzn : ((z.toNat : Nat) : Int) = z := Int.toNat_of_nonneg (by omega)
    have l1 : (nmN z.toNat 8).length ≤ 6 := nm_len (k := 5) (by omega) (by omega)
    have l2 : (nmN (jD (gJ (oS W)) z.toNat).toNat 8).length ≤ 2 := nm_len (k := 1) (by omega) (by omega)
    have l3 : (nmN (jC (gJ (oS W)) z.toNat).toNat 8).length ≤ 2 := nm_len (k := 1) (by omega) (by omega)
    have l4 : (nmN (jA (gJ (oS W)) z.toNat).toNat 8).length ≤ 9 := nm_len (k := 8) (by omega) (by omega)
    obtain ⟨p1, p2, p3, p4, p5⟩ := ent_at hM.1 h
    obtain ⟨t1, a1, b1, d1⟩ := c_putNumber hN (v := z.toNat) (by omega) (t := Thls6 t 0) (O := []) ⟨rfl, fun i x hx => nil_at hx⟩ (by simp)
    obtain ⟨s1, a1', b1', d1'⟩ := m_writesNumber hN (v := z.toNat) (by omega) (s := Ms11 s 0) (O := []) ⟨rfl, fun i x hx => nil_at hx⟩ (by simp)
    rw [hzn] at a1 a1'
    obtain ⟨t2, a2, b2, d2⟩ := c_putSign N b1 (by simp only [List.nil_append]; omega) (c := 58) (by omega)
    obtain ⟨s2, a2', b2', d2'⟩ := m_writes N b1' (by simp only [List.nil_append]; omega) (c := 58) (by omega)
    obtain ⟨t3, a3, b3, d3⟩ := c_putNumber hN (v := (jD (gJ (oS W)) z.toNat).toNat) (by omega) b2 (by simp only [List.nil_append, List.length_append, List.length_cons, List.length_nil]; omega)
    obtain ⟨s3, a3', b3', d3'⟩ := m_writesNumber hN (v := (jD (gJ (oS W)) z.toNat).toNat) (by omega) b2' (by simp only [List.nil_append, List.length_append, List.length_cons, List.length_nil]; omega)
    obtain ⟨t4, a4, b4, d4⟩ := c_putSign N b3 (by simp only [List.nil_append, List.length_append, List.length_cons, List.length_nil]; omega) (c := 60) (by omega)
    obtain ⟨s4, a4', b4', d4'⟩ := m_writes N b3' (by simp only [List.nil_append, List.length_append, List.length_cons, List.length_nil]; omega) (c := 60) (by omega)
    obtain ⟨t5, a5, b5, d5⟩ := c_putNumber hN (v := (jC (gJ (oS W)) z.toNat).toNat) (by omega) b4 (by simp only [List.nil_append, List.length_append, List.length_cons, List.length_nil]; omega)
    obtain ⟨s5, a5', b5', d5'⟩ := m_writesNumber hN (v := (jC (gJ (oS W)) z.toNat).toNat) (by omega) b4' (by simp only [List.nil_append, List.length_append, List.length_cons, List.length_nil]; omega)
    obtain ⟨t6, a6, b6, d6⟩ := c_putSign N b5 (by simp only [List.nil_append, List.length_append, List.length_cons, List.length_nil]; omega) (c := 61) (by omega)
    obtain ⟨s6, a6', b6', d6'⟩ := m_writes N b5' (by simp only [List.nil_append, List.length_append, List.length_cons, List.length_nil]; omega) (c := 61) (by omega)
    obtain ⟨t7, a7, b7, d7⟩ := c_putNumber hN (v := (jA (gJ (oS W)) z.toNat).toNat) (by omega) b6 (by simp only [List.nil_append, List.length_append, List.length_cons, List.length_nil]; omega)
    obtain ⟨s7, a7', b7', d7'⟩ := m_writesNumber hN (v := (jA (gJ (oS W)) z.toNat).toNat) (by omega) b6' (by simp only [List.nil_append, List.length_append, List.length_cons, List.length_nil]; omega)
    obtain ⟨t8, a8, b8, d8⟩ := c_putSign N b7 (by simp only [List.nil_append, List.length_append, List.length_cons, List.length_nil]; omega) (c := 33) (by omega)
    obtain ⟨s8, a8', b8', d8'⟩ := m_writes N b7' (by simp only [List.nil_append, List.length_append, List.length_cons, List.length_nil]; omega) (c := 33) (by omega)
    rw [Int.toNat_of_nonneg (by omega)] at a3 a3' a5 a5' a7 a7'
    have hd : sO t (Thls6 t 0) := ⟨t.2.2.2.2.2.1, 0, rfl⟩
    have hd' : mO s (Ms11 s 0) := ⟨s.2.2.2.2.2.2.2.2.2.2.1, 0, rfl⟩
    have D2 := (hd.tr d1).tr d2
    have D4 := (D2.tr d3).tr d4
    have D6 := (D4.tr d5).tr d6
    have D7 := D6.tr d7
    have D2' := (hd'.tr d1').tr d2'
    have D4' := (D2'.tr d3').tr d4'
    have D6' := (D4'.tr d5').tr d6'
    have D7' := D6'.tr d7'
    have J : ∀ {t' : ThlS}, sO t t' → RJ t'.1.2.1 (gJ (oS W)) := fun {t'} h => by
      obtain ⟨f, x, e⟩ := h
      subst e
      exact hR.1.2.1
    have G : ∀ {s' : MS}, mO s s' → s'.1 = s.1 := fun {s'} h => by
      obtain ⟨f, x, e⟩ := h
      subst e
      rfl
    have e1 := c_jdeb N (J D2) hj (e := z.toNat) (by omega) (by omega)
    have e2 := c_jcre N (J D4) hj (e := z.toNat) (by omega) (by omega)
    have e3 := c_jamt N (J D6) hj (e := z.toNat) (by omega) (by omega)
    have e4 := c_jwas N (J D7) w.2.1 (e := z.toNat) (by omega) (by omega)
    rw [hzn] at e1 e2 e3 e4
    have xr : ∀ {γ : Type} (o : Nat) (K : Nat → Option γ), o ≤ 137 → xrd 229 (iI (o : Int) + iI (z - ((jN (gJ (oS W)) : Int) - jK (gJ (oS W))))) K = K (o + (z.toNat - (jN (gJ (oS W)) - jK (gJ (oS W))))) := fun {γ} o K ho => by
      rw [i_add, xrd_at (k := o + (z.toNat - (jN (gJ (oS W)) - jK (gJ (oS W))))) (by congr 1; omega) (by omega) (by omega)]
    have cls : fX12_writeEntry N (iI z) t = if iB (decide (jM (gJ (oS W)) z.toNat = 1)) = 0 then some ((0 : Nat), t7.2.2.2.2.2.2.1, t7) else xcall (fX12_putSign N 33 t7) fun q15 => some ((0 : Nat), q15.2.2.2.2.2.2.1, q15) := by
      unfold fX12_writeEntry xjoin
      dsimp only
      rw [hc, if_pos h, xcall_s]
      show xcall (fX12_putNumber N ((iI z).toInt64) (Thls6 t 0)) _ = _
      rw [i_toL (by omega) (by omega), a1, xcall_s, show (58 : Int32) = iI 58 from rfl, a2, xcall_s, e1, xcall_s, i_toL (by omega) (by omega), a3, xcall_s, show (60 : Int32) = iI 60 from rfl, a4, xcall_s, e2, xcall_s, i_toL (by omega) (by omega), a5, xcall_s, show (61 : Int32) = iI 61 from rfl, a6, xcall_s, e3, xcall_s, a7, xcall_s, e4, xcall_s]
    have ref : fX13_writeEntry N (iI z) s = if iI (jM (gJ (oS W)) z.toNat) = 1 then xcall (fX13_writes N 33 s7) fun q17 => xcall (fX13_done N q17.2.2.2.2.2.2.2.2.2.2.2.1 q17) fun q15 => some (q15.1, q15.2) else xcall (fX13_done N s7.2.2.2.2.2.2.2.2.2.2.2.1 s7) fun q15 => some (q15.1, q15.2) := by
      unfold fX13_writeEntry xjoin
      dsimp only
      rw [hp, if_pos h, xcall_s, if_neg (by rw [show (-1 : Int32) = iI (-1) from rfl, i_eq (by omega) (by omega) (by omega) (by omega)]; omega), a1', xcall_s, show (58 : Int32) = iI 58 from rfl, a2', xcall_s, show (57 : Int32) = iI ((57 : Nat) : Int) from rfl, xr 57 _ (by omega), G D2', p1, a3', xcall_s, show (60 : Int32) = iI 60 from rfl, a4', xcall_s, show (77 : Int32) = iI ((77 : Nat) : Int) from rfl, xr 77 _ (by omega), G D4', p2, a5', xcall_s, show (61 : Int32) = iI 61 from rfl, a6', xcall_s, show (97 : Int32) = iI ((97 : Nat) : Int) from rfl, xr 97 _ (by omega), G D6', p3, a7', xcall_s, show (137 : Int32) = iI ((137 : Nat) : Int) from rfl, xr 137 _ (by omega), G D7', p5]
    have c1 : ∀ v, ∀ c ∈ nmN v 8, isCh c := fun v c hc => by
      have := nm_ch v 8 c hc
      unfold isCh
      omega
    have c2 : ∀ x : Int, 0 ≤ x ∧ x < 128 → ∀ c ∈ [x], isCh c := fun x hx c hc => by
      simp at hc
      unfold isCh
      omega
    have ap : ∀ {L M : List Int}, (∀ c ∈ L, isCh c) → (∀ c ∈ M, isCh c) → ∀ c ∈ L ++ M, isCh c := fun {L M} h1 h2 c hc => by
      rcases List.mem_append.mp hc with h | h
      · exact h1 c h
      · exact h2 c h
    have C7 := ap (ap (ap (ap (ap (ap (ap (fun c (hc : c ∈ ([] : List Int)) => (List.not_mem_nil hc).elim) (c1 z.toNat)) (c2 58 (by omega))) (c1 (jD (gJ (oS W)) z.toNat).toNat)) (c2 60 (by omega))) (c1 (jC (gJ (oS W)) z.toNat).toNat)) (c2 61 (by omega))) (c1 (jA (gJ (oS W)) z.toNat).toNat)
    by_cases hm : jM (gJ (oS W)) z.toNat = 1
    · refine ⟨0, t8.2.2.2.2.2.2.1, s8.2.2.2.2.2.2.2.2.2.2.2.1, t8, Ms12 s8 (iI 0), _, ?_, ?_, rfl, .inl rfl, fun _ => by rw [b8.1, b8'.1], (D7.tr d8).rt hR b8, (D7'.tr d8').rm hM b8', ⟨hw.1, hw.2.1, hw.2.2.1, hw.2.2.2.1, hw.2.2.2.2.1, ⟨?_, ap C7 (c2 33 (by omega))⟩, hw.2.2.2.2.2.2⟩, rfl⟩
      · rw [cls, decide_eq_true hm, if_neg (show ¬ iB true = 0 by decide), show (33 : Int32) = iI 33 from rfl, a8, xcall_s]
      · rw [ref, hm, if_pos (show iI 1 = 1 from rfl), show (33 : Int32) = iI 33 from rfl, a8', xcall_s]
        rfl
      · simp only [oO, List.nil_append, List.length_append, List.length_cons, List.length_nil]
        omega
    · refine ⟨0, t7.2.2.2.2.2.2.1, s7.2.2.2.2.2.2.2.2.2.2.2.1, t7, Ms12 s7 (iI 0), _, ?_, ?_, rfl, .inl rfl, fun _ => by rw [b7.1, b7'.1], D7.rt hR b7, D7'.rm hM b7', ⟨hw.1, hw.2.1, hw.2.2.1, hw.2.2.2.1, hw.2.2.2.2.1, ⟨?_, C7⟩, hw.2.2.2.2.2.2⟩, rfl⟩
      · rw [cls, decide_eq_false hm, if_pos (show iB false = 0 by decide)]
      · rw [ref, if_neg (by rw [show (1 : Int32) = iI 1 from rfl, i_eq (by omega) (by omega) (by omega) (by omega)]; exact hm)]
        rfl
      · simp only [oO, List.nil_append, List.length_append, List.length_cons, List.length_nil]
        omega
  · unfold fX12_writeEntry fX13_writeEntry
    rw [hc, hp, xcall_s, xcall_s, if_neg h, if_neg h]
    exact ⟨2, 0, iI 0, t, Ms12 s (iI 1), W, rfl, rfl, rfl, .inr (by decide), fun h => absurd h (by decide), hR, hM, hw, rfl⟩
end WE
