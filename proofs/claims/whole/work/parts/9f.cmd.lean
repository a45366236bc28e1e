/-! ===== the reference's commands: any ===== -/
def ltS (j : Nat) : Int := [112, 98, 111, 117, 115, 108, 121, 119, 99].getD j 0
def arS (j : Nat) : Nat := [3, 1, 2, 2, 2, 1, 1, 1, 0].getD j 0
/-- what is laid down for a command -/
def PC (f : Nat → Int32) (b0 : Nat) (c : Nat × List Int) : Prop := f b0 = iI (ltS c.1) ∧ ∀ i, i < arS c.1 → f (b0 + 1 + i) = iI (if c.1 = 7 ∧ c.2.getD i (-1) = -1 then 1 else c.2.getD i (-1))
theorem pc_mk {f : Nat → Int32} {b0 j : Nat} {vs : List Int} (h7 : j ≠ 7) (hl : vs.length = arS j) (h0 : f b0 = iI (ltS j)) (h1 : ∀ i, i < arS j → f (b0 + 1 + i) = iI (vs.getD i 0)) : PC f b0 (j, vs) := by
  refine ⟨h0, fun i hi => ?_⟩
  have hi : i < arS j := hi
  rw [if_neg (fun hh => h7 hh.1), h1 i hi]
  show iI (vs.getD i 0) = iI (vs.getD i (-1))
  rw [List.getD_eq_getElem?_getD, List.getD_eq_getElem?_getD, List.getElem?_eq_getElem (show i < vs.length by omega)]
  rfl
theorem dgS_nn (T : List Int) (m : Nat) (z : Bool × Nat) : 0 ≤ (dgS T m z).1 := by
  unfold dgS
  dsimp only
  split
  · exact rdN_nn T m _ 0 (Int.le_refl _)
  · exact Int.le_refl _
/-- a number that may be missing -/
theorem opt_pts (T : List Int) (p : Nat) : (hr T p = 32 → pts T [68] p = pts T [100] p) ∧ (hr T p ≠ 32 → pts T [68] p = (true, [], p)) := by
  refine ⟨fun h => ?_, fun h => ?_⟩
  · have e : ∀ c : Int, c ≠ 107 → c ≠ 116 → pts T [c] p = if (rdN T 2 (p + 1) (-1)).1 = -1 then (false, [], (rdN T 2 (p + 1) (-1)).2) else (true, [(rdN T 2 (p + 1) (-1)).1], (rdN T 2 (p + 1) (-1)).2) := fun c h1 h2 => by
      have hv : rdV T c (p + 1) = rdN T 2 (p + 1) (-1) := by unfold rdV; rw [if_neg h1, if_neg h2]
      rw [pts, if_pos h, hv]
      rfl
    rw [e 68 (by decide) (by decide), e 100 (by decide) (by decide)]
  · rw [pts, if_neg h]
    rfl
def wtS (T : List Int) (y : Nat) : Bool × Nat × Int := if hr T y = 32 then ((dgS T 2 (false, y)).2.1, (dgS T 2 (false, y)).2.2, (dgS T 2 (false, y)).1) else (false, y, 1)
theorem wt_pts (T : List Int) (e : Nat) : (pts T [68] e).1 = !(wtS T e).1 ∧ (pts T [68] e).2.2 = (wtS T e).2.1 ∧ ((wtS T e).1 = false → (if (pts T [68] e).2.1.getD 0 (-1) = -1 then 1 else (pts T [68] e).2.1.getD 0 (-1)) = (wtS T e).2.2) := by
  obtain ⟨o1, o2⟩ := opt_pts T e
  unfold wtS
  by_cases h : hr T e = 32
  · have d := dg_pts T e (c := 100) (.inl rfl) []
    dsimp only at d
    rw [if_neg (show ¬ (100 : Int) = 116 by decide)] at d
    have nn := dgS_nn T 2 (false, e)
    rw [if_pos h, o1 h]
    generalize dgS T 2 (false, e) = z at *
    obtain ⟨v, b, q⟩ := z
    cases b with
    | true =>
      rw [d.1 rfl]
      exact ⟨rfl, rfl, fun hh => absurd hh (by simp)⟩
    | false =>
      rw [d.2 rfl]
      have nn : 0 ≤ v := nn
      refine ⟨rfl, rfl, fun _ => ?_⟩
      show (if v = -1 then 1 else v) = v
      rw [if_neg (by omega)]
  · rw [if_neg h, o2 h]
    exact ⟨rfl, rfl, fun _ => rfl⟩
theorem op_pts (T : List Int) (e : Nat) : (pts T [107, 68] e).1 = !(opS T (ndS T 32 (false, e))).1 ∧ (pts T [107, 68] e).2.2 = (opS T (ndS T 32 (false, e))).2.1 ∧ ((opS T (ndS T 32 (false, e))).1 = false → (pts T [107, 68] e).2.1.getD 0 (-1) = (opS T (ndS T 32 (false, e))).2.2.1 ∧ (pts T [107, 68] e).2.1.getD 1 (-1) = (opS T (ndS T 32 (false, e))).2.2.2) := by
  rw [pts]
  by_cases h : hr T e = 32
  · have y : ndS T 32 (false, e) = (false, e + 1) := by unfold ndS; rw [if_pos ⟨rfl, h⟩]
    have hv : rdV T 107 (e + 1) = if isKdB (hr T (e + 1)) = true then (hr T (e + 1), e + 1 + 1) else (-1, e + 1) := by unfold rdV; rw [if_pos rfl]
    rw [y, if_pos h, hv]
    unfold opS
    dsimp only
    by_cases k : isKdB (hr T (e + 1)) = true
    · have k2 := (isKdB_t k).2
      unfold isCh at k2
      obtain ⟨o1, o2⟩ := opt_pts T (e + 1 + 1)
      rw [if_pos k]
      dsimp only
      rw [if_neg (by omega), if_pos ⟨rfl, k⟩]
      by_cases h2 : hr T (e + 1 + 1) = 32
      · have d := dg_pts T (e + 1 + 1) (c := 100) (.inl rfl) []
        dsimp only at d
        rw [if_neg (show ¬ (100 : Int) = 116 by decide)] at d
        rw [if_pos h2, o1 h2]
        generalize dgS T 2 (false, e + 1 + 1) = z at *
        obtain ⟨v, b, q⟩ := z
        cases b with
        | true =>
          rw [d.1 rfl]
          exact ⟨rfl, rfl, fun hh => absurd hh (by simp)⟩
        | false =>
          rw [d.2 rfl]
          exact ⟨rfl, rfl, fun _ => ⟨rfl, rfl⟩⟩
      · rw [if_neg h2, o2 h2]
        exact ⟨rfl, rfl, fun _ => ⟨rfl, rfl⟩⟩
    · rw [if_neg k]
      dsimp only
      rw [if_pos rfl, if_neg (fun hh => k hh.2)]
      exact ⟨rfl, rfl, fun hh => absurd hh (by simp)⟩
  · have y : ndS T 32 (false, e) = (true, e) := by unfold ndS; rw [if_neg (fun hh => h hh.2)]
    rw [y, if_neg h]
    unfold opS
    rw [if_neg (by simp)]
    exact ⟨rfl, rfl, fun hh => absurd hh (by simp)⟩
/-- a word that stands, or not -/
theorem cmd_wd {T : List Int} {p : Nat} {L : List Int} {j : Nat} (hwd : wdF T p 9 0 0 = if lcp T L (p + 1) = L.length then (some j, p + 1 + L.length) else (none, p + 1 + lcp T L (p + 1))) : (lcp T L (p + 1) ≠ L.length → cmdS T p = (false, none, p + 1 + lcp T L (p + 1)) ∧ nW T L (p + 1) = (true, p + 1 + lcp T L (p + 1))) ∧ (lcp T L (p + 1) = L.length → cmdS T p = ((pts T (wT (fmS j)) (p + 1 + L.length)).1, some (j, (pts T (wT (fmS j)) (p + 1 + L.length)).2.1), (pts T (wT (fmS j)) (p + 1 + L.length)).2.2) ∧ nW T L (p + 1) = (false, p + 1 + L.length)) := by
  refine ⟨fun h => ?_, fun h => ?_⟩
  · rw [if_neg h] at hwd
    unfold cmdS nW
    rw [hwd, decide_eq_true h]
    exact ⟨rfl, rfl⟩
  · rw [if_pos h] at hwd
    unfold cmdS nW
    rw [hwd, h, decide_eq_false (by simp)]
    exact ⟨rfl, rfl⟩
theorem cmd_fin {T : List Int} {p : Nat} {L F : List Int} {j : Nat} (hwd : wdF T p 9 0 0 = if lcp T L (p + 1) = L.length then (some j, p + 1 + L.length) else (none, p + 1 + lcp T L (p + 1))) (hF : wT (fmS j) = F) (hF2 : ∀ c ∈ F, c = 100 ∨ c = 116) : (cmdS T p).1 = !(dgW T F (nW T L (p + 1))).1 ∧ (cmdS T p).2.2 = (dgW T F (nW T L (p + 1))).2.1 ∧ ((cmdS T p).1 = true → (cmdS T p).2.1 = some (j, (dgW T F (nW T L (p + 1))).2.2)) := by
  obtain ⟨c1, c2⟩ := cmd_wd hwd
  by_cases h : lcp T L (p + 1) = L.length
  · obtain ⟨e1, e2⟩ := c2 h
    rw [e1, e2, hF]
    obtain ⟨d1, d2, d3⟩ := dgW_pts T F (p + 1 + L.length) hF2
    refine ⟨d1, d2, fun hh => ?_⟩
    have hh : (pts T F (p + 1 + L.length)).1 = true := hh
    rw [d1] at hh
    show some (j, (pts T F (p + 1 + L.length)).2.1) = _
    rw [d3 (by simpa using hh)]
  · obtain ⟨e1, e2⟩ := c1 h
    rw [e1, e2]
    obtain ⟨d1, d2⟩ := dgW_t T F (p + 1 + lcp T L (p + 1))
    exact ⟨by rw [d1]; rfl, d2.symm, fun hh => absurd hh (by simp)⟩
section CM
variable {N : Nat} {s : MS} {T : List Int} {p : Nat}
theorem m_six0 (N : Nat) (h : RQ s T false p) (w : TX T) (hp : p ≤ 80) : ∃ s1 s', fX13_needsThree N 117 114 116 s = some s1 ∧ fX13_needsThree N 97 105 110 s1 = some s' ∧ qS s s' ∧ RQ s' T (nW T [117, 114, 116, 97, 105, 110] p).1 (nW T [117, 114, 116, 97, 105, 110] p).2 := by
  obtain ⟨s1, a1, a2, a3⟩ := m_three N h w (by omega) (c := 117) (d := 114) (e := 116) (by omega) (by omega) (by omega)
  have l1 := ndS_le T 117 (false, p)
  have l2 := ndS_le T 114 (ndS T 117 (false, p))
  have l3 := ndS_le T 116 (ndS T 114 (ndS T 117 (false, p)))
  simp only at l1
  obtain ⟨s2, b1, b2, b3⟩ := m_three N a3 w (by omega) (c := 97) (d := 105) (e := 110) (by omega) (by omega) (by omega)
  refine ⟨s1, s2, a1, b1, a2.tr b2, ?_⟩
  have q : ndS T 110 (ndS T 105 (ndS T 97 (ndS T 116 (ndS T 114 (ndS T 117 (false, p)))))) = nW T [117, 114, 116, 97, 105, 110] p := ndW_lcp T [117, 114, 116, 97, 105, 110] p
  have e3 : RQ s2 T (ndS T 110 (ndS T 105 (ndS T 97 (ndS T 116 (ndS T 114 (ndS T 117 (false, p))))))).1 (ndS T 110 (ndS T 105 (ndS T 97 (ndS T 116 (ndS T 114 (ndS T 117 (false, p))))))).2 := b3
  rw [q] at e3
  exact e3
def PCm (s s' : MS) (T : List Int) (p b0 : Nat) : Prop := qT s s' ∧ RQ s' T (!(cmdS T p).1) (cmdS T p).2.2 ∧ ((cmdS T p).1 = true → ∀ c, (cmdS T p).2.1 = some c → PC (pa s') b0 c) ∧ ∀ k, k < b0 → pa s' k = pa s k
/-- numbers behind a word -/
theorem pcm_dg {s s' : MS} {b0 : Nat} {L F : List Int} {j : Nat} (hwd : wdF T p 9 0 0 = if lcp T L (p + 1) = L.length then (some j, p + 1 + L.length) else (none, p + 1 + lcp T L (p + 1))) (hF : wT (fmS j) = F) (hF2 : ∀ c ∈ F, c = 100 ∨ c = 116) (hq : qT s s') (hr9 : RQ s' T (dgW T F (nW T L (p + 1))).1 (dgW T F (nW T L (p + 1))).2.1) (hpc : PC (pa s') b0 (j, (dgW T F (nW T L (p + 1))).2.2)) (hk : ∀ k, k < b0 → pa s' k = pa s k) : PCm s s' T p b0 := by
  obtain ⟨d1, d2, d3⟩ := cmd_fin hwd hF hF2
  refine ⟨hq, ?_, fun hh c hc => ?_, hk⟩
  · rw [d1, d2, Bool.not_not]
    exact hr9
  · rw [d3 hh] at hc
    rw [← Option.some.inj hc]
    exact hpc
end CM
