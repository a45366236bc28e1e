/-! ===== the reference's reader ===== -/
/-- one letter wanted: fault and place -/
def ndS (T : List Int) (c : Int) (z : Bool × Nat) : Bool × Nat := if z.1 = false ∧ hr T z.2 = c then (false, z.2 + 1) else (true, z.2)
/-- a blank and a number -/
def dgS (T : List Int) (m : Nat) (z : Bool × Nat) : Int × Bool × Nat := let y := ndS T 32 z; if y.1 = false ∧ isDg (hr T y.2) = true then ((rdN T m y.2 0).1, false, (rdN T m y.2 0).2) else (0, true, y.2)
theorem rdN_end (T : List Int) : ∀ m p v, p ≤ (rdN T m p v).2 ∧ (rdN T m p v).2 ≤ p + m := by
  intro m
  induction m with
  | zero => intro p v; exact ⟨Nat.le_refl _, Nat.le_refl _⟩
  | succ m ih =>
    intro p v
    rw [rdN]
    split
    · have := ih (p + 1) (max v 0 * 10 + hr T p - 48)
      omega
    · exact ⟨Nat.le_refl _, Nat.le_add_right _ _⟩
section MR
variable {N : Nat} {s : MS} {T : List Int} {b : Bool} {p : Nat}
theorem m_nd (N : Nat) (h : RQ s T b p) (w : TX T) (hp : p ≤ 100) {c : Int} (hc : 0 ≤ c ∧ c < 65536) : ∃ s', fX13_needs N (iI c) s = some s' ∧ qS s s' ∧ RQ s' T (ndS T c (b, p)).1 (ndS T c (b, p)).2 := by
  obtain ⟨s', e1, e2, e3⟩ := m_needs N h w hp hc
  refine ⟨s', e1, e2, ?_⟩
  unfold ndS
  dsimp only
  by_cases hb : b = false ∧ hr T p = c
  · rw [if_pos hb, hb.1, hb.2, decide_eq_false (by simp)] at e3
    rw [if_pos hb]
    exact e3
  · rw [if_neg hb] at e3
    rw [if_neg hb]
    have e : (b || decide (hr T p ≠ c)) = true := by
      cases b with
      | true => rfl
      | false => rw [decide_eq_true (by simpa using hb)]; rfl
    rw [e] at e3
    exact e3
theorem ndS_le (T : List Int) (c : Int) (z : Bool × Nat) : z.2 ≤ (ndS T c z).2 ∧ (ndS T c z).2 ≤ z.2 + 1 := by
  unfold ndS
  split
  · exact ⟨Nat.le_succ _, Nat.le_refl _⟩
  · exact ⟨Nat.le_refl _, Nat.le_succ _⟩
theorem m_three (N : Nat) (h : RQ s T b p) (w : TX T) (hp : p ≤ 90) {c d e : Int} (hc : 0 ≤ c ∧ c < 65536) (hd : 0 ≤ d ∧ d < 65536) (he : 0 ≤ e ∧ e < 65536) : ∃ s', fX13_needsThree N (iI c) (iI d) (iI e) s = some s' ∧ qS s s' ∧ RQ s' T (ndS T e (ndS T d (ndS T c (b, p)))).1 (ndS T e (ndS T d (ndS T c (b, p)))).2 := by
  have l1 := ndS_le T c (b, p)
  have l2 := ndS_le T d (ndS T c (b, p))
  obtain ⟨s1, a1, a2, a3⟩ := m_nd N h w (by omega) hc
  obtain ⟨s2, b1, b2, b3⟩ := m_nd N a3 w (by simp only at l1; omega) hd
  obtain ⟨s3, c1, c2, c3⟩ := m_nd N b3 w (by show (ndS T d (ndS T c (b, p))).2 ≤ 100; simp only at l1; omega) he
  refine ⟨s3, ?_, (a2.tr b2).tr c2, c3⟩
  unfold fX13_needsThree
  rw [a1, xcall_s, b1, xcall_s, c1, xcall_s]
theorem m_digLoop (K : Int32 → MS → Option (Int32 × MS)) (w : TX T) (m : Nat) : ∀ (j n p : Nat) (v : Int) (s : MS), j ≤ m → m ≤ 3 → j + 1 ≤ n → RQ s T false p → p + j ≤ 100 → 0 ≤ v → ∃ s', fX13_digits_L40 N K n (iI (m : Int)) (iI v) (iI ((m - j : Nat) : Int)) s = K (iI (rdN T j p v).1) s' ∧ qS s s' ∧ RQ s' T false (rdN T j p v).2 := by
  intro j
  induction j with
  | zero =>
    intro n p v s hj hm hn h hp hv
    obtain ⟨n, rfl⟩ : ∃ k, n = k + 1 := ⟨n - 1, by omega⟩
    refine ⟨s, ?_, qS.rf s, h⟩
    rw [fX13_digits_L40, h.2.2, if_pos (show iB false = 0 by decide), if_pos (by rw [i_le (by omega) (by omega) (by omega) (by omega)]; omega)]
    rfl
  | succ j ih =>
    intro n p v s hj hm hn h hp hv
    obtain ⟨n, rfl⟩ : ∃ k, n = k + 1 := ⟨n - 1, by omega⟩
    have hh := hr_rng w p
    have mh := m_here N h w (by omega)
    rw [fX13_digits_L40, h.2.2, if_pos (show iB false = 0 by decide), if_neg (by rw [i_le (by omega) (by omega) (by omega) (by omega)]; omega), mh, xcall_s, show (48 : Int32) = iI 48 from rfl, show (57 : Int32) = iI 57 from rfl, m_in N (by omega) (by omega) (by omega), xcall_s, rdN]
    by_cases e : isDg (hr T p) = true
    · have e0 := isDg_t.mp e
      obtain ⟨s', f1, f2, f3⟩ := ih n (p + 1) (max v 0 * 10 + hr T p - 48) (Ms13 s (iI ((p + 1 : Nat) : Int))) (by omega) hm (by omega) ⟨h.1, rfl, h.2.2⟩ (by omega) (by omega)
      refine ⟨s', ?_, f2, by rw [if_pos e]; exact f3⟩
      rw [decide_eq_true e0, if_neg (show ¬ iB true = 0 by decide), if_pos e, xcall_s]
      unfold xlet
      dsimp only
      rw [h.2.1, show (10 : Int32) = iI 10 from rfl, show (1 : Int32) = iI 1 from rfl, i_mul, i_add, i_sub, i_add, i_succ, i_add, i_succ, show m - (j + 1) + 1 = m - j by omega, show 10 * v + hr T p - 48 = max v 0 * 10 + hr T p - 48 by omega]
      exact f1
    · have e0 : ¬ (48 ≤ hr T p ∧ hr T p ≤ 57) := fun hh => e (isDg_t.mpr hh)
      refine ⟨s, ?_, qS.rf s, by rw [if_neg e]; exact h⟩
      rw [decide_eq_false e0, if_pos (show iB false = 0 by decide), if_neg e]
theorem m_digits (hN : 2000 ≤ N) (h : RQ s T b p) (w : TX T) (hp : p ≤ 90) {m : Nat} (hm : m ≤ 3) : ∃ s', fX13_digits N (iI (m : Int)) s = some (iI (dgS T m (b, p)).1, s') ∧ qS s s' ∧ RQ s' T (dgS T m (b, p)).2.1 (dgS T m (b, p)).2.2 := by
  have l1 := ndS_le T 32 (b, p)
  simp only at l1
  obtain ⟨s1, a1, a2, a3⟩ := m_nd N h w (by omega) (c := 32) (by omega)
  have hh := hr_rng w (ndS T 32 (b, p)).2
  have mh := m_here N a3 w (by omega)
  unfold fX13_digits dgS xjoin
  dsimp only
  rw [show (32 : Int32) = iI 32 from rfl, a1, xcall_s, a3.2.2]
  have wr : ∀ s2 : MS, qS s1 s2 → RQ s2 T true (ndS T 32 (b, p)).2 → fX13_digits_L40 N (fun v2_4 s0_4 => some (v2_4, s0_4)) N (iI (m : Int)) 0 0 s2 = some (iI 0, s2) := fun s2 _ h2 => by
    obtain ⟨n, hn⟩ : ∃ k, N = k + 1 := ⟨N - 1, by omega⟩
    have e : ∀ n, fX13_digits_L40 N (fun v2_4 s0_4 => some (v2_4, s0_4)) (n + 1) (iI (m : Int)) 0 0 s2 = some (iI 0, s2) := fun n => by
      rw [fX13_digits_L40, h2.2.2, if_neg (show ¬ iB true = 0 by decide)]
      rfl
    have := e n
    rw [← hn] at this
    exact this
  have q1 : qS s1 (Ms14 s1 1) := ⟨rfl, rfl, rfl, rfl, rfl, rfl, rfl, rfl, rfl, rfl, rfl, rfl, rfl, rfl⟩
  have q0 : qS s1 (Ms14 s1 0) := ⟨rfl, rfl, rfl, rfl, rfl, rfl, rfl, rfl, rfl, rfl, rfl, rfl, rfl, rfl⟩
  cases hb : (ndS T 32 (b, p)).1 with
  | true =>
    refine ⟨Ms14 s1 1, ?_, a2.tr q1, ?_⟩
    · rw [if_neg (show ¬ iB true = 0 by decide), xnz_of (by decide), wr _ q1 ⟨a3.1, a3.2.1, rfl⟩, if_neg (by simp)]
    · rw [if_neg (by simp)]
      exact ⟨a3.1, a3.2.1, rfl⟩
  | false =>
    rw [if_pos (show iB false = 0 by decide), mh, xcall_s, show (48 : Int32) = iI 48 from rfl, show (57 : Int32) = iI 57 from rfl, m_in N (by omega) (by omega) (by omega), xcall_s]
    by_cases e : isDg (hr T (ndS T 32 (b, p)).2) = true
    · have e0 := isDg_t.mp e
      obtain ⟨s', f1, f2, f3⟩ := m_digLoop (N := N) (fun v2_4 s0_4 => some (v2_4, s0_4)) w m m N (ndS T 32 (b, p)).2 0 (Ms14 s1 0) (Nat.le_refl _) hm (by omega) ⟨a3.1, a3.2.1, rfl⟩ (by omega) (by omega)
      rw [Nat.sub_self] at f1
      refine ⟨s', ?_, (a2.tr q0).tr f2, by rw [if_pos ⟨rfl, e⟩]; exact f3⟩
      rw [decide_eq_true e0, if_neg (show ¬ iB true = 0 by decide), xnz_of (by decide), if_pos ⟨rfl, e⟩]
      exact f1
    · have e0 : ¬ (48 ≤ hr T (ndS T 32 (b, p)).2 ∧ hr T (ndS T 32 (b, p)).2 ≤ 57) := fun hh => e (isDg_t.mpr hh)
      refine ⟨Ms14 s1 1, ?_, a2.tr q1, ?_⟩
      · rw [decide_eq_false e0, if_pos (show iB false = 0 by decide), xnz_of (by decide), wr _ q1 ⟨a3.1, a3.2.1, rfl⟩, if_neg (fun hh => e hh.2)]
      · rw [if_neg (fun hh => e hh.2)]
        exact ⟨a3.1, a3.2.1, rfl⟩
end MR
