/-! ===== the class's words ===== -/
def wTx : List (List Int) := [[112, 111, 115, 116], [98, 97, 99, 107], [111, 112, 101, 110], [98, 117, 121], [115, 101, 108, 108], [98, 105, 108, 108], [112, 97, 121], [119, 97, 105, 116], [99, 117, 114, 116, 97, 105, 110], [100, 100, 116], [116], [107, 68], [100, 116], [68], []]
def wT (j : Nat) : List Int := wTx.getD j []
theorem wT_all : (List.range 15).all (fun j => decide (xLen j = iI ((wT j).length : Int)) && decide ((wT j).length ≤ 7) && (wT j).all (fun c => decide (0 ≤ c ∧ c < 128)) && (List.range (wT j).length).all (fun i => decide (xCh j i = iI ((wT j).getD i 0)))) = true := by decide +kernel
theorem wT_at {j : Nat} (hj : j < 15) : xLen j = iI ((wT j).length : Int) ∧ (wT j).length ≤ 7 ∧ (∀ c ∈ wT j, 0 ≤ c ∧ c < 128) ∧ ∀ (i : Nat) (c : Int), (wT j)[i]? = some c → xCh j i = iI c := by
  have h := List.all_eq_true.mp wT_all j (List.mem_range.mpr hj)
  simp only [Bool.and_eq_true, decide_eq_true_eq] at h
  obtain ⟨⟨⟨h1, h2⟩, h3⟩, h4⟩ := h
  refine ⟨h1, h2, fun c hc => of_decide_eq_true (List.all_eq_true.mp h3 c hc), fun i c hi => ?_⟩
  have hl := lt_len hi
  have := of_decide_eq_true (List.all_eq_true.mp h4 i (List.mem_range.mpr hl))
  rw [this, List.getD_eq_getElem?_getD, hi]
  rfl
def lcp (T : List Int) : List Int → Nat → Nat
  | [], _ => 0
  | c :: r, p => if hr T p = c then lcp T r (p + 1) + 1 else 0
theorem lcp_len (T : List Int) : ∀ w p, lcp T w p ≤ w.length := by
  intro w
  induction w with
  | nil => intro p; exact Nat.le_refl _
  | cons c r ih =>
    intro p
    have := ih (p + 1)
    rw [lcp, List.length_cons]
    split <;> omega
theorem t_len (N : Nat) {j : Nat} (hj : j < 15) : fJ0_length_8abf5 N (40 + j) = some (iI ((wT j).length : Int)) := by
  unfold fJ0_length_8abf5
  rw [if_pos (by omega), show 40 + j - 40 = j by omega, (wT_at hj).1]
theorem t_char (N : Nat) {j i : Nat} {c : Int} (hj : j < 15) (h : (wT j)[i]? = some c) : fJ0_charAt_5068e N (40 + j) (iI (i : Int)) = some (iI c) := by
  have hl := lt_len h
  obtain ⟨h1, h2, h3, h4⟩ := wT_at hj
  unfold fJ0_charAt_5068e
  rw [show 40 + j - 40 = j by omega, h1, if_pos ⟨by omega, by rw [i_lit, i_le (by omega) (by omega) (by omega) (by omega)]; omega, by rw [i_lt (by omega) (by omega) (by omega) (by omega)]; omega⟩]
  have e : (iI (i : Int)).toNatClampNeg = i := by
    have : ∀ k, k < 8 → (iI ((k : Nat) : Int)).toNatClampNeg = k := by decide
    exact this i (by omega)
  rw [e, h4 i c h]
section CW
variable {N : Nat} {s : ScrS} {T : List Int} {p : Nat}
theorem c_shared (hN : 2000 ≤ N) (h : RC s T p) (w : TX T) (hp : p ≤ 90) {j : Nat} (hj : j < 15) : fX9_sharedLetters N (40 + j) s = some (iI (lcp T (wT j) p : Int)) := by
  obtain ⟨h1, h2, h3⟩ := h
  obtain ⟨w1, w2, w3, w4⟩ := wT_at hj
  have hl := w.1
  unfold fX9_sharedLetters xjoin
  refine loopP (F := fun n (_ : Unit) i => fX9_sharedLetters_L2 N s (fun v2_1 => some v2_1) n (40 + j) (iI (i : Int))) (I := fun _ i => lcp T (wT j) p = lcp T ((wT j).drop i) (p + i) + i) (m := (wT j).length) (P := fun r => r = _) ?_ ?_ N 0 () (by omega) (by omega) (by simp)
  · intro n _ i hi hI
    obtain ⟨c, hc, hd, hm⟩ := drop_at hi
    have hcr := w3 c hm
    have hh := hr_rng w (p + i)
    rw [hd, lcp] at hI
    rw [fX9_sharedLetters_L2, t_len N hj, xcall_s, if_neg (by rw [i_le (by omega) (by omega) (by omega) (by omega)]; omega), h1, h3, i_add]
    by_cases e : p + i < T.length
    · rw [if_neg (by rw [i_le (by omega) (by omega) (by omega) (by omega)]; omega), xrd_at (k := p + i) (by congr 1) (by omega) (by omega), t_char N hj hc, xcall_s, h2 _ _ (hr_in e)]
      by_cases e2 : hr T (p + i) = c
      · rw [if_pos e2] at hI
        refine .inr ⟨(), ?_, by show _ = lcp T _ (p + (i + 1)) + (i + 1); rw [← Nat.add_assoc p]; omega⟩
        rw [if_pos (by rw [e2])]
        unfold xlet
        dsimp only
        rw [show (1 : Int32) = iI 1 from rfl, i_add, i_succ]
      · rw [if_neg e2] at hI
        left
        rw [if_neg (by rw [i_eq (by omega) (by omega) (by omega) (by omega)]; exact e2)]
        rw [hI, Nat.zero_add]
    · left
      have := hr_out (T := T) (p := p + i) (by omega)
      rw [if_neg (by omega)] at hI
      rw [if_pos (by rw [i_le (by omega) (by omega) (by omega) (by omega)]; omega), hI, Nat.zero_add]
  · intro n _ hI
    rw [List.drop_eq_nil_of_le (Nat.le_refl _), lcp, Nat.zero_add] at hI
    rw [fX9_sharedLetters_L2, t_len N hj, xcall_s, if_pos (by rw [i_le (by omega) (by omega) (by omega) (by omega)]; omega), hI]
def wdF (T : List Int) (p : Nat) : Nat → Nat → Nat → Option Nat × Nat
  | 0, _, far => (none, p + far)
  | k + 1, j, far => if lcp T (wT j) p = (wT j).length then (some j, p + (wT j).length) else wdF T p k (j + 1) (max far (lcp T (wT j) p))
theorem c_wordLoop (hN : 2000 ≤ N) (h : RC s T p) (w : TX T) (hp : p ≤ 90) : ∀ (k n far : Nat), k ≤ 9 → k + 1 ≤ n → far ≤ 7 → fX9_readWord_L4 N (fun v1_1 s0_1 => xlet (s0_1.2.2.2.2.2 + v1_1) fun x2 => some (none, (Scrs5 s0_1 x2))) n (iI (far : Int)) (iI ((9 - k : Nat) : Int)) s = some ((wdF T p k (9 - k) far).1.map (10 + ·), Scrs5 s (iI ((wdF T p k (9 - k) far).2 : Int))) := by
  intro k
  induction k with
  | zero =>
    intro n far hk hn hf
    obtain ⟨n, rfl⟩ : ∃ m, n = m + 1 := ⟨n - 1, by omega⟩
    rw [fX9_readWord_L4, if_pos (by decide)]
    unfold xlet
    dsimp only
    rw [h.2.2, i_add]
    rfl
  | succ k ih =>
    intro n far hk hn hf
    obtain ⟨n, rfl⟩ : ∃ m, n = m + 1 := ⟨n - 1, by omega⟩
    have hj : 9 - (k + 1) < 15 := by omega
    have hl := lcp_len T (wT (9 - (k + 1))) p
    obtain ⟨w1, w2, w3, w4⟩ := wT_at hj
    have xv : ∀ {γ : Type} (K : Nat → Option γ), xvb (10 + (9 - (k + 1))) K = K (9 - (k + 1)) := fun {γ} K => by
      unfold xvb
      rw [if_pos (by omega), show 10 + (9 - (k + 1)) - 10 = 9 - (k + 1) by omega]
    rw [fX9_readWord_L4, if_neg (by rw [i_lit, i_le (by omega) (by omega) (by omega) (by omega)]; omega), xrd_n (by omega) (by omega), xv, c_shared hN h w hp hj, xcall_s, xv, t_len N hj, xcall_s, wdF]
    by_cases e : lcp T (wT (9 - (k + 1))) p = (wT (9 - (k + 1))).length
    · rw [if_pos (by rw [e]), if_pos e]
      unfold xlet
      dsimp only
      rw [h.2.2, i_add, e]
      rfl
    · rw [if_neg (by rw [i_eq (by omega) (by omega) (by omega) (by omega)]; omega), if_neg e, c_max N (by omega) (by omega), xcall_s]
      unfold xlet
      dsimp only
      rw [show (1 : Int32) = iI 1 from rfl, i_add, i_succ, show 9 - (k + 1) + 1 = 9 - k by omega, show max (far : Int) (lcp T (wT (9 - (k + 1))) p : Int) = ((max far (lcp T (wT (9 - (k + 1))) p) : Nat) : Int) by omega]
      exact ih n _ (by omega) (by omega) (by omega)
theorem c_readWord (hN : 2000 ≤ N) (h : RC s T p) (w : TX T) (hp : p ≤ 90) : fX9_readWord N s = some ((wdF T p 9 0 0).1.map (10 + ·), Scrs5 s (iI ((wdF T p 9 0 0).2 : Int))) := by
  have q := c_wordLoop hN h w hp 9 N 0 (by omega) (by omega) (by omega)
  rw [Nat.sub_self] at q
  unfold fX9_readWord xjoin
  exact q
end CW
