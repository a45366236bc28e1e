/-! ===== the class's commands ===== -/
def fmS (j : Nat) : Nat := xForm.getD j 0
theorem fm_all : (List.range 9).all (fun j => decide (fmS j < 15) && decide ((wT (fmS j)).length ≤ 3) && decide (9 ≤ fmS j)) = true := by decide
theorem fm_at {j : Nat} (hj : j < 9) : fmS j < 15 ∧ (wT (fmS j)).length ≤ 3 := by
  have h := List.all_eq_true.mp fm_all j (List.mem_range.mpr hj)
  simp only [Bool.and_eq_true, decide_eq_true_eq] at h
  exact ⟨h.1.1, h.1.2⟩
def cmdS (T : List Int) (p : Nat) : Bool × Option (Nat × List Int) × Nat := match wdF T p 9 0 0 with
  | (none, e) => (false, none, e)
  | (some j, e) => ((pts T (wT (fmS j)) e).1, some (j, (pts T (wT (fmS j)) e).2.1), (pts T (wT (fmS j)) e).2.2)
def RCm (s : ScrS) (C : List (Nat × List Int)) : Prop := s.2.2.2.2.1 = iI (C.length : Int) ∧ ∀ (i : Nat) (c : Nat × List Int), C[i]? = some c → c.1 < 9 ∧ s.2.2.1 i = some (10 + c.1) ∧ ∀ q, q < 3 → s.2.2.2.1 (i * 3 + q) = iI (c.2.getD q (-1))
theorem pts_len (T : List Int) : ∀ (L : List Int) (p : Nat), (pts T L p).2.1.length ≤ L.length := by
  intro L
  induction L with
  | nil => intro p; exact Nat.le_refl _
  | cons c r ih =>
    intro p
    rw [pts]
    split
    · split
      · exact Nat.zero_le _
      · have := ih (rdV T c (p + 1)).2
        simp only [List.length_cons]
        omega
    · exact Nat.zero_le _
theorem wdF_rng {T : List Int} (w : TX T) {p : Nat} (hp : p ≤ T.length) : ∀ (k far : Nat), k ≤ 9 → p + far ≤ T.length → (∀ j, (wdF T p k (9 - k) far).1 = some j → j < 9) ∧ p ≤ (wdF T p k (9 - k) far).2 ∧ (wdF T p k (9 - k) far).2 ≤ T.length := by
  intro k
  induction k with
  | zero =>
    intro far _ h
    have e : wdF T p 0 (9 - 0) far = (none, p + far) := rfl
    rw [e]
    exact ⟨fun j hj => by simp at hj, Nat.le_add_right _ _, h⟩
  | succ k ih =>
    intro far hk h
    have hlc := lcp_le w (wT (9 - (k + 1))) p (fun c hc => ((wT_at (j := 9 - (k + 1)) (by omega)).2.2.1 c hc).1) hp
    rw [wdF, show 9 - (k + 1) + 1 = 9 - k by omega]
    split
    · rename_i e
      exact ⟨fun j hj => by
        have : 9 - (k + 1) = j := Option.some.inj hj
        omega, Nat.le_add_right _ _, by show p + _ ≤ _; omega⟩
    · exact ih _ (by omega) (by omega)
section CC
variable {N : Nat} {T : List Int} {s : ScrS} {p : Nat}
theorem c_clear (hN : 2000 ≤ N) (K : Nat → ScrS → Option (Int32 × ScrS)) {c0 : Nat} (hc0 : c0 < 12) (v : Nat) (hcnt : s.2.2.2.2.1 = iI (c0 : Int)) : fX9_readCommand_L32 N K N v 0 s = K v (Scrs3 s (upd (upd (upd s.2.2.2.1 (c0 * 3) (iI (-1))) (c0 * 3 + 1) (iI (-1))) (c0 * 3 + 2) (iI (-1)))) := by
  obtain ⟨n, rfl⟩ : ∃ m, N = m + 4 := ⟨N - 4, by omega⟩
  have st : ∀ (n i : Nat) (s : ScrS), i < 3 → s.2.2.2.2.1 = iI (c0 : Int) → fX9_readCommand_L32 (n + 4) K (n + 1) v (iI (i : Int)) s = fX9_readCommand_L32 (n + 4) K n v (iI ((i + 1 : Nat) : Int)) (Scrs3 s (upd s.2.2.2.1 (c0 * 3 + i) (iI (-1)))) := fun n i s hi h => by
    rw [fX9_readCommand_L32, if_neg (by rw [i_lit, i_le (by omega) (by omega) (by omega) (by omega)]; omega), h, show (3 : Int32) = iI 3 from rfl, i_mul, i_add, xrd_at (k := c0 * 3 + i) (by congr 1) (by omega) (by omega)]
    unfold xlet
    rw [show (1 : Int32) = iI 1 from rfl, i_add]
    rfl
  have e1 := st (n + 3) 0 s (by omega) hcnt
  have e2 := st (n + 2) 1 (Scrs3 s (upd s.2.2.2.1 (c0 * 3 + 0) (iI (-1)))) (by omega) hcnt
  have e3 := st (n + 1) 2 (Scrs3 s (upd (upd s.2.2.2.1 (c0 * 3 + 0) (iI (-1))) (c0 * 3 + 1) (iI (-1)))) (by omega) hcnt
  have e4 : ∀ s2, fX9_readCommand_L32 (n + 4) K (n + 1) v (iI ((2 + 1 : Nat) : Int)) s2 = K v s2 := fun s2 => by
    rw [fX9_readCommand_L32, if_pos (by decide)]
  exact e1.trans (e2.trans (e3.trans (e4 _)))
theorem c_readCommand (hN : 2000 ≤ N) (h : RC s T p) (w : TX T) (hp : p ≤ T.length) {C : List (Nat × List Int)} (hC : RCm s C) (hC2 : C.length < 12 ∨ (C.length ≤ 12 ∧ (wdF T p 9 0 0).1 = none)) : ∃ s', fX9_readCommand N s = some (iB (cmdS T p).1, s') ∧ RC s' T (cmdS T p).2.2 ∧ RCm s' (C ++ (cmdS T p).2.1.toList) ∧ (cmdS T p).2.2 ≤ T.length ∧ p ≤ (cmdS T p).2.2 := by
  have hl := w.1
  have hw := c_readWord hN h w (by omega)
  have hr9 := wdF_rng w hp 9 0 (by omega) (by omega)
  rw [Nat.sub_self] at hr9
  obtain ⟨r1, r2, r3⟩ := hr9
  unfold fX9_readCommand cmdS
  rw [hw, xcall_s]
  unfold xjoin
  dsimp only
  cases e : wdF T p 9 0 0 with
  | mk o q =>
    rw [e] at r1 r2 r3
    cases o with
    | none =>
      refine ⟨Scrs5 s (iI (q : Int)), rfl, h.at q, ?_, r3, r2⟩
      show RCm _ (C ++ [])
      rw [List.append_nil]
      exact hC
    | some j =>
      have hj := r1 j rfl
      obtain ⟨f1, f2⟩ := fm_at hj
      have hc12 : C.length < 12 := by
        rcases hC2 with h9 | h9
        · exact h9
        · rw [e] at h9
          exact absurd h9.2 (by simp)
      have xv : ∀ {γ : Type} (K : Nat → Option γ), xvb (10 + j) K = K j := fun {γ} K => by
        unfold xvb
        rw [if_pos (by omega), show 10 + j - 10 = j by omega]
      have cl := c_clear (N := N) (s := Scrs2 (Scrs5 s (iI (q : Int))) (xupq s.2.2.1 C.length (some (10 + j)))) hN (fun v1_8 s0_8 => xvb v1_8 fun j9 => xcall (fX9_readParts N (40 + xForm.getD j9 0) s0_8) fun q10 => xlet (q10.2.2.2.2.2.1 + 1) fun x11 => xnz (xnar .boolean q10.1) <| some (q10.1, (Scrs4 q10.2 x11))) hc12 (10 + j) hC.1
      obtain ⟨s', g1, ⟨g2, g3, g4, g5, g6⟩, g7⟩ := c_partsLoop hN w f1 f2 hc12 (wT (fmS j)).length N q (Scrs3 (Scrs2 (Scrs5 s (iI (q : Int))) (xupq s.2.2.1 C.length (some (10 + j)))) (upd (upd (upd s.2.2.2.1 (C.length * 3) (iI (-1))) (C.length * 3 + 1) (iI (-1))) (C.length * 3 + 2) (iI (-1)))) (Nat.le_refl _) (by omega) ⟨h.1, h.2.1, rfl⟩ r3 hC.1
      rw [Nat.sub_self, List.drop_zero] at g1 g2 g5 g6 g7
      have hv := pts_len T (wT (fmS j)) q
      refine ⟨Scrs4 s' (iI ((C.length + 1 : Nat) : Int)), ?_, g2, ⟨?_, ?_⟩, g7, ?_⟩
      · show (if s.2.2.2.2.1 < 12 then _ else _) = _
        rw [hC.1, if_pos (by rw [i_lit, i_lt (by omega) (by omega) (by omega) (by omega)]; omega), xv, xrd_n (by omega) (by omega)]
        refine cl.trans ?_
        show xvb (10 + j) _ = _
        rw [xv]
        show xcall (fX9_readParts N (40 + fmS j) _) _ = _
        unfold fX9_readParts xjoin
        dsimp only
        have g1' := g1
        rw [show (iI ((0 : Nat) : Int)) = (0 : Int32) from rfl] at g1'
        rw [g1', xcall_s]
        unfold xlet
        dsimp only
        rw [g4]
        show xnz _ (some (_, Scrs4 s' (s.2.2.2.2.1 + 1))) = _
        rw [hC.1, show (1 : Int32) = iI 1 from rfl, i_add, xnz_of xnar_b]
        rfl
      · show iI ((C.length + 1 : Nat) : Int) = iI ((C ++ [(j, (pts T (wT (fmS j)) q).2.1)]).length : Int)
        rw [List.length_append]
        rfl
      · intro i c hi
        have hi9 := lt_len hi
        have hi : (C ++ [(j, (pts T (wT (fmS j)) q).2.1)])[i]? = some c := hi
        have hi9 : i < (C ++ [(j, (pts T (wT (fmS j)) q).2.1)]).length := hi9
        rw [List.length_append] at hi9
        simp only [List.length_cons, List.length_nil] at hi9
        show c.1 < 9 ∧ s'.2.2.1 i = _ ∧ ∀ q, q < 3 → s'.2.2.2.1 (i * 3 + q) = _
        rw [g3]
        by_cases e9 : i < C.length
        · rw [List.getElem?_append_left e9] at hi
          obtain ⟨b1, b2, b3⟩ := hC.2 i c hi
          refine ⟨b1, ?_, fun z hz => ?_⟩
          · show (if i = C.length then _ else s.2.2.1 i) = _
            rw [if_neg (by omega)]
            exact b2
          · rw [g6 _ (.inl (by omega))]
            show upd (upd (upd s.2.2.2.1 (C.length * 3) (iI (-1))) (C.length * 3 + 1) (iI (-1))) (C.length * 3 + 2) (iI (-1)) (i * 3 + z) = _
            rw [upd_ne (by omega), upd_ne (by omega), upd_ne (by omega)]
            exact b3 z hz
        · have e9 : i = C.length := by omega
          subst e9
          simp at hi
          subst hi
          refine ⟨hj, ?_, fun z hz => ?_⟩
          · show (if C.length = C.length then some (10 + j) else _) = _
            rw [if_pos rfl]
          · by_cases ez : z < (pts T (wT (fmS j)) q).2.1.length
            · have := g5 z _ (List.getElem?_eq_getElem ez)
              rw [Nat.add_zero] at this
              rw [this, List.getD_eq_getElem?_getD, List.getElem?_eq_getElem ez]
              rfl
            · rw [g6 _ (.inr (by omega)), List.getD_eq_getElem?_getD, List.getElem?_eq_none (l := (pts T (wT (fmS j)) q).2.1) (i := z) (by omega)]
              show upd (upd (upd s.2.2.2.1 (C.length * 3) (iI (-1))) (C.length * 3 + 1) (iI (-1))) (C.length * 3 + 2) (iI (-1)) (C.length * 3 + z) = iI (-1)
              unfold upd
              by_cases z2 : z = 2
              · rw [if_pos (by omega)]
              · rw [if_neg (by omega)]
                by_cases z1 : z = 1
                · rw [if_pos (by omega)]
                · rw [if_neg (by omega), if_pos (by omega)]
      · have : ∀ (L : List Int) (q : Nat), q ≤ (pts T L q).2.2 := by
          intro L
          induction L with
          | nil => intro q; exact Nat.le_refl _
          | cons c r ih =>
            intro q
            have hd : q + 1 ≤ (rdV T c (q + 1)).2 := by
              unfold rdV
              split
              · split
                · exact Nat.le_succ _
                · exact Nat.le_refl _
              · exact (rdN_end T _ _ _).1
            rw [pts]
            split
            · split
              · show q ≤ (rdV T c (q + 1)).2
                omega
              · exact Nat.le_trans (by omega) (ih (rdV T c (q + 1)).2)
            · exact Nat.le_refl _
        exact Nat.le_trans r2 (this _ q)
end CC
