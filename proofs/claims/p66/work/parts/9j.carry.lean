/-! ===== a command carried out, class and reference ===== -/
def VC (c : Nat × List Int) : Prop := c.1 < 9 ∧ (∀ i, -1 ≤ c.2.getD i (-1) ∧ c.2.getD i (-1) < 65536) ∧ (c.1 = 2 → isKdB (c.2.getD 0 (-1)) = true)
theorem pts_rng {T : List Int} (w : TX T) : ∀ (L : List Int) (q i : Nat), -1 ≤ (pts T L q).2.1.getD i (-1) ∧ (pts T L q).2.1.getD i (-1) < 65536 := by
  intro L
  have nil : ∀ i : Nat, -1 ≤ ([] : List Int).getD i (-1) ∧ ([] : List Int).getD i (-1) < 65536 := fun i => by
    rw [List.getD_eq_getElem?_getD, List.getElem?_nil]
    exact ⟨Int.le_refl _, show (-1 : Int) < 65536 by decide⟩
  induction L with
  | nil => intro q i; exact nil i
  | cons c r ih =>
    intro q i
    have hv := rdV_rng w c (q + 1)
    rw [pts]
    split
    · split
      · exact nil i
      · cases i with
        | zero => exact hv
        | succ i => exact ih _ i
    · exact nil i
theorem cmd_vc {T : List Int} (w : TX T) {p : Nat} (h : (cmdS T p).1 = true) {c : Nat × List Int} (hc : (cmdS T p).2.1 = some c) : VC c := by
  have hw := wdF_len T p 9 0
  rw [Nat.sub_self] at hw
  unfold cmdS at h hc
  cases e : wdF T p 9 0 0 with
  | mk o q =>
    rw [e] at h hc hw
    cases o with
    | none => exact absurd h (by simp)
    | some j =>
      obtain ⟨h1, h2⟩ := hw j rfl (by omega)
      have hc : (j, (pts T (wT (fmS j)) q).2.1) = c := Option.some.inj hc
      have h : (pts T (wT (fmS j)) q).1 = true := h
      subst hc
      refine ⟨h2, fun i => pts_rng w _ _ i, fun hj => ?_⟩
      have hj : j = 2 := hj
      subst hj
      have hF : wT (fmS 2) = [107, 68] := rfl
      show isKdB ((pts T (wT (fmS 2)) q).2.1.getD 0 (-1)) = true
      rw [hF] at h ⊢
      rw [pts] at h ⊢
      by_cases g : hr T q = 32
      · rw [if_pos g] at h ⊢
        have hv : rdV T 107 (q + 1) = if isKdB (hr T (q + 1)) = true then (hr T (q + 1), q + 1 + 1) else (-1, q + 1) := by unfold rdV; rw [if_pos rfl]
        rw [hv] at h ⊢
        by_cases k : isKdB (hr T (q + 1)) = true
        · have k2 := (isKdB_t k).2
          unfold isCh at k2
          rw [if_pos k] at h ⊢
          dsimp only at h ⊢
          rw [if_neg (show ¬ hr T (q + 1) = -1 by omega)]
          exact k
        · rw [if_neg k] at h
          exact absurd h (by simp)
      · rw [if_neg g] at h
        exact absurd h (by simp)
theorem rdC_ok {T : List Int} (w : TX T) : ∀ (k p : Nat) (C : List (Nat × List Int)), (∀ c ∈ C, VC c) → (rdC T k p C).1 = true → (∀ c ∈ (rdC T k p C).2.1, VC c) ∧ 5 * (rdC T k p C).2.1.length + p ≤ 5 * C.length + (rdC T k p C).2.2 + 1 ∧ C.length < (rdC T k p C).2.1.length := by
  intro k
  induction k with
  | zero => intro p C _ h; exact absurd h (by simp [rdC])
  | succ k ih =>
    intro p C hC h
    rw [rdC] at h ⊢
    have nx : (cmdS T p).1 = true → (∀ c ∈ C ++ (cmdS T p).2.1.toList, VC c) ∧ (C ++ (cmdS T p).2.1.toList).length = C.length + 1 ∧ p + 4 ≤ (cmdS T p).2.2 := fun hok => by
      obtain ⟨c4, c1⟩ := cmd_4 hok
      refine ⟨fun c hc => ?_, by rw [List.length_append, c1], c4⟩
      rcases List.mem_append.mp hc with h9 | h9
      · exact hC c h9
      · exact cmd_vc w hok (Option.mem_toList.mp h9)
    split
    · rename_i e
      rw [if_pos e] at h
      obtain ⟨n1, n2, n3⟩ := nx e.1.1
      obtain ⟨i1, i2, i3⟩ := ih ((cmdS T p).2.2 + 1) _ n1 h
      exact ⟨i1, by omega, by omega⟩
    · rename_i e
      rw [if_neg e] at h
      obtain ⟨n1, n2, n3⟩ := nx h
      refine ⟨n1, ?_, ?_⟩
      · show 5 * (C ++ (cmdS T p).2.1.toList).length + p ≤ 5 * C.length + (cmdS T p).2.2 + 1
        omega
      · show C.length < (C ++ (cmdS T p).2.1.toList).length
        omega
def COr (ci : Option (Nat × ThlS)) (cm : Option (Int32 × MS)) (t : ThlS) (s : MS) (a b : Nat) : Prop := (∃ S' b' u v g', NX a b S' ∧ ci = some (0, Thls3 (Thls0 t b') u) ∧ RBo b' S' ∧ cm = some (v, Ms12 (Ms0 s g') (iI 0)) ∧ GG g' S') ∨ (∃ q v k, 0 < q ∧ q < 6 ∧ ci = some (q, t) ∧ cm = some (v, Ms12 s (iI k)) ∧ 1 ≤ k ∧ k ≤ 9)
theorem co_no {ci : Option (Nat × ThlS)} {cm : Option (Int32 × MS)} {t : ThlS} {s : MS} {a b : Nat} (q : Nat) (k : Int) {v : Int32} (hc : ci = some (q, t)) (hm : cm = some (v, Ms12 s (iI k))) (hq : 0 < q ∧ q < 6) (hk : 1 ≤ k ∧ k ≤ 9) : COr ci cm t s a b := .inr ⟨q, v, k, hq.1, hq.2, hc, hm, hk.1, hk.2⟩
theorem co_ok {ci : Option (Nat × ThlS)} {cm : Option (Int32 × MS)} {t : ThlS} {s : MS} {a b : Nat} {S' : SG} (n : NX a b S') {b' : BooS} (u : MatS) (hc : ci = some (0, Thls3 (Thls0 t b') u)) (hb : RBo b' S') {v : Int32} (hm : ∃ g', cm = some (v, Ms12 (Ms0 s g') (iI 0)) ∧ GG g' S') : COr ci cm t s a b := by
  obtain ⟨g', h1, h2⟩ := hm
  exact .inl ⟨S', b', u, v, g', n, hc, hb, h1, h2⟩
section CO2
variable {N : Nat} {t : ThlS} {s : MS} {S : SG} {a b : Nat}
end CO2
