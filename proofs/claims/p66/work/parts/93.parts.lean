/-! ===== the class's parts and commands ===== -/
def rdV (T : List Int) (c : Int) (p : Nat) : Int × Nat := if c = 107 then (if isKdB (hr T p) = true then (hr T p, p + 1) else (-1, p)) else rdN T (if c = 116 then 3 else 2) p (-1)
def pts (T : List Int) : List Int → Nat → Bool × List Int × Nat
  | [], p => (true, [], p)
  | c :: r, p => if hr T p = 32 then (if (rdV T c (p + 1)).1 = -1 then (false, [], (rdV T c (p + 1)).2) else ((pts T r (rdV T c (p + 1)).2).1, (rdV T c (p + 1)).1 :: (pts T r (rdV T c (p + 1)).2).2.1, (pts T r (rdV T c (p + 1)).2).2.2)) else (decide (c = 68), [], p)
theorem rdN_le {T : List Int} (w : TX T) : ∀ m p v, p ≤ T.length → (rdN T m p v).2 ≤ T.length := by
  intro m
  induction m with
  | zero => intro p v h; exact h
  | succ m ih =>
    intro p v h
    rw [rdN]
    split
    · rename_i e
      have e0 := isDg_t.mp e
      have := (hr_nn w (p := p)).mp (by omega)
      exact ih (p + 1) _ (by omega)
    · exact h
theorem rdN_up {T : List Int} : ∀ (m p : Nat) (v : Int) (k : Nat), -1 ≤ v → v < ((10 ^ k : Nat) : Int) → (rdN T m p v).1 < ((10 ^ (k + m) : Nat) : Int) ∧ -1 ≤ (rdN T m p v).1 := by
  intro m
  induction m with
  | zero => intro p v k h1 h2; exact ⟨h2, h1⟩
  | succ m ih =>
    intro p v k h1 h2
    rw [rdN]
    have hp := p10_pos k
    have hq : 10 ^ (k + 1) = 10 ^ k * 10 := Nat.pow_succ 10 k
    split
    · rename_i e
      have e0 := isDg_t.mp e
      have := ih (p + 1) (max v 0 * 10 + hr T p - 48) (k + 1) (by omega) (by omega)
      rw [show k + (m + 1) = k + 1 + m by omega]
      exact this
    · refine ⟨?_, h1⟩
      have := Nat.pow_le_pow_right (n := 10) (by omega) (show k ≤ k + (m + 1) by omega)
      show v < _
      omega
theorem rdV_rng {T : List Int} (w : TX T) (c : Int) (p : Nat) : -1 ≤ (rdV T c p).1 ∧ (rdV T c p).1 < 65536 := by
  have hh := hr_rng w p
  unfold rdV
  split
  · split
    · exact hh
    · exact ⟨Int.le_refl _, show (-1 : Int) < 65536 by decide⟩
  · have := rdN_up (T := T) (if c = 116 then 3 else 2) p (-1) 0 (by omega) (by decide)
    have h2 : 10 ^ (0 + (if c = 116 then 3 else 2)) ≤ 1000 := by split <;> decide
    omega
theorem rdV_le {T : List Int} (w : TX T) (c : Int) {p : Nat} (hp : p ≤ T.length) : (rdV T c p).2 ≤ T.length := by
  unfold rdV
  split
  · split
    · rename_i e
      have e1 := (isKdB_t e).2
      unfold isCh at e1
      have := (hr_nn w (p := p)).mp e1.1
      show p + 1 ≤ _
      omega
    · exact hp
  · exact rdN_le w _ _ _ hp
theorem lcp_le {T : List Int} (w : TX T) : ∀ (L : List Int) (p : Nat), (∀ c ∈ L, 0 ≤ c) → p ≤ T.length → p + lcp T L p ≤ T.length := by
  intro L
  induction L with
  | nil => intro p _ h; exact h
  | cons c r ih =>
    intro p hL h
    rw [lcp]
    split
    · rename_i e
      have h0 := hL c List.mem_cons_self
      have := (hr_nn w (p := p)).mp (by omega)
      have := ih (p + 1) (fun x hx => hL x (List.mem_cons_of_mem _ hx)) (by omega)
      omega
    · exact h
section PA
variable {N : Nat} {T : List Int}
theorem c_val (hN : 2000 ≤ N) {s : ScrS} {p : Nat} (h : RC s T p) (w : TX T) (hp : p ≤ T.length) {c : Int} (hc : 0 ≤ c ∧ c < 128) {γ : Type} (K : Int32 → ScrS → Option γ) : (if iI c = 107 then xcall (fX9_readKind N s) fun q19 => K q19.1 q19.2 else if iI c = 116 then xcall (fX9_readNumber N 3 s) fun q17 => K q17.1 q17.2 else xcall (fX9_readNumber N 2 s) fun q17 => K q17.1 q17.2) = K (iI (rdV T c p).1) (Scrs5 s (iI ((rdV T c p).2 : Int))) := by
  have hl := w.1
  unfold rdV
  by_cases h1 : c = 107
  · rw [if_pos (by rw [h1]; rfl), if_pos h1, c_readKind N h w (by omega), xcall_s]
    split
    · rfl
    · show K (iI (-1)) s = K (iI (-1)) (Scrs5 s (iI (p : Int)))
      rw [← h.2.2]
  · rw [if_neg (by rw [i_lit, i_eq (by omega) (by omega) (by omega) (by omega)]; exact h1), if_neg h1]
    by_cases h2 : c = 116
    · rw [if_pos (by rw [h2]; rfl), if_pos h2, show (3 : Int32) = iI ((3 : Nat) : Int) from rfl, c_readNumber hN h w (by omega) (by omega), xcall_s]
    · rw [if_neg (by rw [i_lit, i_eq (by omega) (by omega) (by omega) (by omega)]; exact h2), if_neg h2, show (2 : Int32) = iI ((2 : Nat) : Int) from rfl, c_readNumber hN h w (by omega) (by omega), xcall_s]
def PRS (s s' : ScrS) (T : List Int) (p b : Nat) (vs : List Int) : Prop := RC s' T p ∧ s'.2.2.1 = s.2.2.1 ∧ s'.2.2.2.2.1 = s.2.2.2.2.1 ∧ (∀ (i : Nat) (v : Int), vs[i]? = some v → s'.2.2.2.1 (b + i) = iI v) ∧ ∀ q, q < b ∨ b + vs.length ≤ q → s'.2.2.2.1 q = s.2.2.2.1 q
theorem c_partsLoop (hN : 2000 ≤ N) (w : TX T) {f : Nat} (hf : f < 15) (hf3 : (wT f).length ≤ 3) {c0 : Nat} (hc0 : c0 < 12) : ∀ (k n p : Nat) (s : ScrS), k ≤ (wT f).length → k + 1 ≤ n → RC s T p → p ≤ T.length → s.2.2.2.2.1 = iI (c0 : Int) → ∃ s', fX9_readParts_L2 N (fun s0_1 => some (1, s0_1)) n (40 + f) (iI (((wT f).length - k : Nat) : Int)) s = some (iB (pts T ((wT f).drop ((wT f).length - k)) p).1, s') ∧ PRS s s' T (pts T ((wT f).drop ((wT f).length - k)) p).2.2 (c0 * 3 + ((wT f).length - k)) (pts T ((wT f).drop ((wT f).length - k)) p).2.1 ∧ (pts T ((wT f).drop ((wT f).length - k)) p).2.2 ≤ T.length := by
  intro k
  have hl := w.1
  obtain ⟨w1, w2, w3, w4⟩ := wT_at hf
  induction k with
  | zero =>
    intro n p s hk hn h hp hcnt
    obtain ⟨n, rfl⟩ : ∃ m, n = m + 1 := ⟨n - 1, by omega⟩
    rw [List.drop_eq_nil_of_le (by omega)]
    refine ⟨s, ?_, ⟨h, rfl, rfl, fun i v hi => nil_at hi, fun q _ => rfl⟩, hp⟩
    rw [fX9_readParts_L2, t_len N hf, xcall_s, if_pos (by rw [i_le (by omega) (by omega) (by omega) (by omega)]; omega)]
    rfl
  | succ k ih =>
    intro n p s hk hn h hp hcnt
    obtain ⟨n, rfl⟩ : ∃ m, n = m + 1 := ⟨n - 1, by omega⟩
    obtain ⟨c, hc, hd, hm⟩ := drop_at (L := wT f) (i := (wT f).length - (k + 1)) (by omega)
    have hcr := w3 c hm
    have hh := hr_rng w p
    rw [hd, show (wT f).length - (k + 1) + 1 = (wT f).length - k by omega, pts]
    rw [fX9_readParts_L2, t_len N hf, xcall_s, if_neg (by rw [i_le (by omega) (by omega) (by omega) (by omega)]; omega), if_neg (by rw [show (3 : Int32) = iI 3 from rfl, i_le (by omega) (by omega) (by omega) (by omega)]; omega), t_char N hf hc, xcall_s, show (32 : Int32) = iI 32 from rfl, c_isNext N h w (by omega) (by omega), xcall_s]
    by_cases e : hr T p = 32
    · have hin := (hr_nn w (p := p)).mp (by omega)
      have hv := rdV_rng w c (p + 1)
      have hle := rdV_le w c (p := p + 1) (by omega)
      rw [decide_eq_true e, if_neg (show ¬ iB true = 0 by decide), if_pos e]
      unfold xlet xjoin
      dsimp only
      have e1 : iI (p : Int) + 1 = iI ((p + 1 : Nat) : Int) := by rw [i_lit, i_add]; rfl
      rw [h.2.2, e1]
      rw [c_val (s := Scrs5 s (iI ((p + 1 : Nat) : Int))) hN (h.at (p + 1)) w (by omega) hcr (fun t0_10 s0_10 => if t0_10 = (-1) then some (0, s0_10) else xrd 36 ((s0_10.2.2.2.2.1 * 3) + iI (((wT f).length - (k + 1) : Nat) : Int)) fun k12 => fX9_readParts_L2 N (fun s0_1 => some (1, s0_1)) n (40 + f) (iI (((wT f).length - (k + 1) : Nat) : Int) + 1) ((Scrs3 s0_10 (upd s0_10.2.2.2.1 k12 t0_10))))]
      dsimp only
      by_cases e3 : (rdV T c (p + 1)).1 = -1
      · refine ⟨Scrs5 s (iI ((rdV T c (p + 1)).2 : Int)), ?_, ?_, ?_⟩
        · rw [if_pos (by rw [e3]; rfl), if_pos e3]
          rfl
        · rw [if_pos e3]
          exact ⟨h.at _, rfl, rfl, fun i v hi => nil_at hi, fun q _ => rfl⟩
        · rw [if_pos e3]
          exact hle
      · have ei : iI (c0 : Int) * 3 + iI (((wT f).length - (k + 1) : Nat) : Int) = iI ((c0 * 3 + ((wT f).length - (k + 1)) : Nat) : Int) := by rw [i_lit, i_mul, i_add]; rfl
        have e4 : iI (((wT f).length - (k + 1) : Nat) : Int) + 1 = iI (((wT f).length - k : Nat) : Int) := by rw [i_lit, i_add]; congr 1; omega
        obtain ⟨s', g1, ⟨g2, g3, g4, g5, g6⟩, g7⟩ := ih n (rdV T c (p + 1)).2 (Scrs3 (Scrs5 s (iI ((rdV T c (p + 1)).2 : Int))) (upd s.2.2.2.1 (c0 * 3 + ((wT f).length - (k + 1))) (iI (rdV T c (p + 1)).1))) (by omega) (by omega) ⟨h.1, h.2.1, rfl⟩ hle hcnt
        rw [if_neg e3]
        refine ⟨s', ?_, ⟨g2, g3, g4, fun i v hi => ?_, fun q hq => ?_⟩, g7⟩
        · rw [if_neg (by rw [show (-1 : Int32) = iI (-1) from rfl, i_eq (by omega) (by omega) (by omega) (by omega)]; exact e3)]
          show xrd 36 (s.2.2.2.2.1 * 3 + _) _ = _
          rw [hcnt, ei, xrd_n (by omega) (by omega), e4]
          exact g1
        · cases i with
          | zero =>
            have hv0 : (rdV T c (p + 1)).1 = v := by simpa using hi
            have := g6 (c0 * 3 + ((wT f).length - (k + 1))) (.inl (by omega))
            rw [Nat.add_zero, this, ← hv0]
            exact upd_eq
          | succ i =>
            have hi2 : (pts T ((wT f).drop ((wT f).length - k)) (rdV T c (p + 1)).2).2.1[i]? = some v := by simpa using hi
            have := g5 i v hi2
            rw [show c0 * 3 + ((wT f).length - (k + 1)) + (i + 1) = c0 * 3 + ((wT f).length - k) + i by omega]
            exact this
        · have hq2 : q < c0 * 3 + ((wT f).length - (k + 1)) ∨ c0 * 3 + ((wT f).length - (k + 1)) + ((pts T ((wT f).drop ((wT f).length - k)) (rdV T c (p + 1)).2).2.1.length + 1) ≤ q := hq
          have := g6 q (by omega)
          rw [this]
          exact upd_ne (by omega)
    · refine ⟨s, ?_, ?_, ?_⟩
      · rw [decide_eq_false e, if_pos (show iB false = 0 by decide), if_neg e]
        unfold xjoin
        dsimp only
        by_cases e2 : c = 68
        · rw [if_pos (by rw [e2]; rfl), decide_eq_true e2, xnz_of (by decide)]
          rfl
        · rw [if_neg (by rw [i_lit, i_eq (by omega) (by omega) (by omega) (by omega)]; exact e2), decide_eq_false e2, xnz_of (by decide)]
          rfl
      · rw [if_neg e]
        exact ⟨h, rfl, rfl, fun i v hi => nil_at hi, fun q _ => rfl⟩
      · rw [if_neg e]
        exact hp
end PA
