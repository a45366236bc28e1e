/-! ===== a call that changes the books, held against the reference ===== -/
theorem c_refuse (N : Nat) : ∀ q, q < 6 → fX12_refuse N q = some q
  | 0, _ => rfl
  | 1, _ => rfl
  | 2, _ => rfl
  | 3, _ => rfl
  | 4, _ => rfl
  | 5, _ => rfl
  | n + 6, h => absurd h (by omega)
def isCh (c : Int) : Prop := 0 ≤ c ∧ c < 65536
def WO (a b : Nat) (W : SO) : Prop := WS a b (oS W) ∧ (∀ S ∈ oH W, WS a b S) ∧ (∀ S, oV W = some S → WS a b S) ∧ (oH W).length ≤ 8 ∧ ((oT W).length ≤ 60 ∧ ∀ c ∈ oT W, isCh c) ∧ ((oO W).length ≤ 37 ∧ ∀ c ∈ oO W, isCh c) ∧ (-1 ≤ oE W ∧ oE W ≤ 60) ∧ (-1 ≤ oF W ∧ oF W ≤ 60)
theorem WS.more {a b a' b' : Nat} {S : SG} (h : WS a b S) (ha : a ≤ a') (hb : b ≤ b') : WS a' b' S := ⟨h.1, h.2.more ha hb⟩
def stO (W : SO) (S' : SG) : SO := (S', pushH (oH W) (oS W), W.2.2)
def NO (a b : Nat) (W' : SO) : Prop := ∃ a' b', a' + b' ≤ a + b + 1 ∧ WO a' b' W'
theorem pushH_mem {H : List SG} {S x : SG} (h : x ∈ pushH H S) : x ∈ H ∨ x = S := by
  unfold pushH at h
  split at h
  · rcases List.mem_append.mp h with h9 | h9
    · exact .inl (List.mem_of_mem_tail h9)
    · exact .inr (by simpa using h9)
  · rcases List.mem_append.mp h with h9 | h9
    · exact .inl h9
    · exact .inr (by simpa using h9)
theorem NO.st {a b : Nat} {W : SO} (h : WO a b W) {S' : SG} (n : NX a b S') : NO a b (stO W S') := by
  obtain ⟨h1, h2, h3, h4, h5, h6, h7, h8⟩ := h
  obtain ⟨a', b', n1, n2, n3, n4⟩ := n
  refine ⟨a', b', by omega, n4, fun S hS => ?_, fun S hS => (h3 S hS).more n2 n3, (pushH_len h4).1, h5, h6, h7, h8⟩
  rcases pushH_mem hS with h9 | h9
  · exact (h2 S h9).more n2 n3
  · rw [h9]; exact h1.more n2 n3
theorem whyE_0 {n : Nat} {d c m : Int} (h : whyE n d c m = 0) : (0 ≤ d ∧ d < n) ∧ (0 ≤ c ∧ c < n) ∧ d ≠ c ∧ 1 ≤ m ∧ m ≤ 999 := by
  unfold whyE at h
  split at h
  · omega
  · split at h <;> omega
def lawC (cs : List Nat) (q : Nat) : Nat := if q = 0 then 0 else cs.idxOf q + 1
def SC (cs : List Nat) (W : SO) (a b : Nat) (c : Option (Nat × Int32 × ThlS × (Nat → BooS))) (m : Option (Int32 × MS)) : Prop := ∃ q v v' t r s W', c = some (q, v, t, r) ∧ m = some (v', s) ∧ s.2.2.2.2.2.2.2.2.2.2.2.2.1 = iI (lawC cs q : Int) ∧ (q = 0 ∨ q ∈ cs) ∧ (q = 0 → v = v') ∧ RT t r W' ∧ RM s W' ∧ NO a b W' ∧ W'.2.2 = W.2.2
section SCs
variable {N : Nat} {t : ThlS} {r : Nat → BooS} {s : MS} {W : SO} {a b : Nat} {cs : List Nat}
theorem c_record (N : Nat) (hR : RT t r W) (w : WG (oS W)) : ∃ t' r', fX12_record N t r = some (t', r') ∧ RT t' r' (stO W (oS W)) := by
  obtain ⟨h1, h2, h3, h4⟩ := hR
  obtain ⟨r', k, k1, k2, k3, k4, k5, k6⟩ := c_setAside N h1 w h3
  obtain ⟨his, e1, e2⟩ := c_keepAside N k3 (S := oS W) (fun f hf hlt => by rw [← k6 f hf hlt]; exact k4)
  refine ⟨Thls2 t his, r', ?_, h1, h2, e2, h4⟩
  · unfold fX12_record
    rw [k2, xcall_s, e1, xcall_s]
theorem GG.bg {s : MS} {W : SO} (hM : RM s W) (w : WG (oS W)) : GG (cpN s.1 s.2.1 0 0) (oS W) := hM.1.eq w fun k hk => by
  unfold cpN
  rw [if_pos (by omega)]
  show s.1 (0 + (k - 0)) = s.1 k
  rw [show 0 + (k - 0) = k by omega]
/-! the calls -/
theorem c_fHours (N : Nat) {k : Int} (hk : -2147483648 ≤ k ∧ k < 2147483648) : fX12_faultOfHours N (iI k) = some (if 1 ≤ k ∧ k ≤ 24 then 0 else 3) := by
  unfold fX12_faultOfHours
  rw [show (1 : Int32) = iI 1 from rfl, show (24 : Int32) = iI 24 from rfl, c_within N hk (by omega) (by omega), xcall_s]
  by_cases h : 1 ≤ k ∧ k ≤ 24
  · rw [decide_eq_true h, if_pos h]; rfl
  · rw [decide_eq_false h, if_neg h]; rfl
theorem c_fBuy (N : Nat) {bk : BooS} {S : SG} (h : RBo bk S) (w : WG S) {k p : Int} (hk : -2147483648 ≤ k ∧ k < 2147483648) (hp : -2147483648 ≤ p ∧ p < 2147483648) : fX3_faultOfBuying N (iI k) (iI p) bk = some (if ¬ ((1 ≤ k ∧ k ≤ 20) ∧ (1 ≤ p ∧ p ≤ 40)) then 3 else if 8 ≤ (gL S).length then 4 else if bal (gA S) 0 < k * p then 5 else 0) := by
  have hn := w.1.1
  have hb := bal_rng w.wa (i := 0) (by omega)
  have hl := w.2.2.2.1.1
  have hL : bk.2.2.2.1.2.2 = iI ((gL S).length : Int) := h.2.2.2.1.1
  unfold fX3_faultOfBuying
  rw [c_isTrade N hk hp, xcall_s]
  by_cases h1 : (1 ≤ k ∧ k ≤ 20) ∧ (1 ≤ p ∧ p ≤ 40)
  · rw [decide_eq_true h1, if_neg (show ¬ iB true = 0 by decide), if_neg (show ¬ ¬ ((1 ≤ k ∧ k ≤ 20) ∧ (1 ≤ p ∧ p ≤ 40)) from fun hh => hh h1), hL]
    by_cases h2 : 8 ≤ (gL S).length
    · rw [if_pos h2, if_neg (by rw [i_lit, i_lt (by omega) (by omega) (by omega) (by omega)]; omega)]
    · have m0 : 0 ≤ k * p := Int.mul_nonneg (by omega) (by omega)
      have m1 : k * p ≤ 20 * 40 := Int.mul_le_mul (by omega) (by omega) (by omega) (by omega)
      rw [if_neg h2, if_pos (by rw [i_lit, i_lt (by omega) (by omega) (by omega) (by omega)]; omega), show (0 : Int32) = iI ((0 : Nat) : Int) from rfl, c_bal N h.1 w.wa (by omega), xcall_s, i_mul, i_toL (by omega) (by omega)]
      unfold xjoin
      dsimp only
      by_cases h3 : bal (gA S) 0 < k * p
      · rw [if_pos h3, if_neg]
        show ¬ iI 0 ≤ lg_cmp (iL _) (iL _)
        simp (disch := omega) only [i_le, i_lt, i_eq, l_cmp0, l_cmplt, l_cmpgt, l_cmple, l_cmpge, b_zero, b_one, decide_eq_false_iff_not, decide_eq_true_eq]
        omega
      · rw [if_neg h3, if_pos]
        show iI 0 ≤ lg_cmp (iL _) (iL _)
        simp (disch := omega) only [i_le, i_lt, i_eq, l_cmp0, l_cmplt, l_cmpgt, l_cmple, l_cmpge, b_zero, b_one, decide_eq_false_iff_not, decide_eq_true_eq]
        omega
  · rw [decide_eq_false h1, if_pos h1]; rfl
theorem isKdB_t {k : Int} (h : isKdB k = true) : isKd k ∧ isCh k := by
  unfold isKdB at h
  unfold isKd isCh
  simp only [Bool.or_eq_true, decide_eq_true_eq] at h
  omega
end SCs
