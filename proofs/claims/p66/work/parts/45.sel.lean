/-! which cells come from where, behind a call -/
def xsel (ws w1 : va_W) : List (Option Nat) → Nat → List (Option (Nat × va_E))
  | [], _ => []
  | none :: r, i => ws[i]? :: xsel ws w1 r (i + 1)
  | some k :: r, i => w1[k]? :: xsel ws w1 r (i + 1)
def xchk (isC : List Nat) : List (Option Nat) → Nat → Bool
  | [], _ => true
  | none :: r, i => !(isC.contains i) && xchk isC r (i + 1)
  | some k :: r, i => decide (isC[k]? = some i) && xchk isC r (i + 1)
theorem xsel_at {ws w1 : va_W} {isC : List Nat} : ∀ (ks : List (Option Nat)) (n : Nat) (w2 : va_W), xsel ws w1 ks n = w2.map some → xchk isC ks n = true → ∀ (i : Nat) (q : Nat × va_E), w2[i]? = some q → (n + i ∉ isC ∧ ws[n + i]? = some q) ∨ ∃ k : Nat, isC[k]? = some (n + i) ∧ w1[k]? = some q := by
  intro ks
  induction ks with
  | nil =>
    intro n w2 h _ i q hq
    cases w2 with
    | nil => simp at hq
    | cons a b => simp [xsel] at h
  | cons o r ih =>
    intro n w2 h hk i q hq
    cases w2 with
    | nil => simp at hq
    | cons a b =>
      cases o with
      | none =>
        simp only [xsel, List.map_cons, List.cons.injEq] at h
        simp only [xchk, Bool.and_eq_true, Bool.not_eq_true'] at hk
        cases i with
        | zero =>
          simp only [List.getElem?_cons_zero, Option.some.injEq] at hq
          subst hq
          refine Or.inl ⟨fun hm => ?_, h.1⟩
          have := hk.1
          rw [Nat.add_zero] at hm
          simp [hm] at this
        | succ i =>
          simp only [List.getElem?_cons_succ] at hq
          have := ih (n + 1) b h.2 hk.2 i q hq
          rwa [show n + 1 + i = n + (i + 1) by omega] at this
      | some k =>
        simp only [xsel, List.map_cons, List.cons.injEq] at h
        simp only [xchk, Bool.and_eq_true, decide_eq_true_eq] at hk
        cases i with
        | zero =>
          simp only [List.getElem?_cons_zero, Option.some.injEq] at hq
          subst hq
          exact Or.inr ⟨k, hk.1, h.1⟩
        | succ i =>
          simp only [List.getElem?_cons_succ] at hq
          have := ih (n + 1) b h.2 hk.2 i q hq
          rwa [show n + 1 + i = n + (i + 1) by omega] at this
theorem xselH {ws w1 w2 : va_W} {isC : List Nat} (ks : List (Option Nat)) (hw : xsel ws w1 ks 0 = w2.map some) (hk : xchk isC ks 0 = true) : ∀ (i : Nat) (q : Nat × va_E), w2[i]? = some q → (i ∉ isC ∧ ws[i]? = some q) ∨ ∃ k : Nat, isC[k]? = some i ∧ w1[k]? = some q := by
  intro i q hq
  have := xsel_at ks 0 w2 hw hk i q hq
  rwa [Nat.zero_add] at this
theorem xT2 {cA : Nat → ClassId} {hr : Nat → Nat → Nat} {rs rs' : Nat → BooS} {wf w1f w2f : va_W} {F : Nat} (isF : List Nat) (hs : ∀ (i : Nat) (q : Nat × va_E), w2f[i]? = some q → (i ∉ isF ∧ wf[i]? = some q) ∨ ∃ k : Nat, isF[k]? = some i ∧ w1f[k]? = some q) (h2 : w2f.length = F) (hl : isF.length = w1f.length) (hF : wf.length = F) :
    ∀ (i : Nat) (q : Nat × va_E), (w2f ++ RowW cA hr rs')[i]? = some q → (i ∉ isF ++ tp F ∧ (wf ++ RowW cA hr rs)[i]? = some q) ∨ ∃ k : Nat, (isF ++ tp F)[k]? = some i ∧ (w1f ++ RowW cA hr rs')[k]? = some q := by
  intro i q h
  by_cases hi : i < F
  · rw [List.getElem?_append_left (by omega)] at h
    rcases hs i q h with ⟨h3, h4⟩ | ⟨k, h3, h4⟩
    · refine Or.inl ⟨fun hm => ?_, by rw [List.getElem?_append_left (by omega)]; exact h4⟩
      rcases List.mem_append.mp hm with hm | hm
      · exact h3 hm
      · obtain ⟨j, -, hj⟩ := List.mem_map.mp hm
        omega
    · refine Or.inr ⟨k, ?_, ?_⟩
      · rw [List.getElem?_append_left (List.getElem?_eq_some_iff.mp h3).1]; exact h3
      · rw [List.getElem?_append_left (List.getElem?_eq_some_iff.mp h4).1]; exact h4
  · rw [List.getElem?_append_right (by omega), h2] at h
    have hlt : i - F < 225 := by
      have := (List.getElem?_eq_some_iff.mp h).1
      rwa [RowW_len] at this
    refine Or.inr ⟨isF.length + (i - F), ?_, ?_⟩
    · rw [List.getElem?_append_right (Nat.le_add_right _ _), Nat.add_sub_cancel_left]
      unfold tp
      rw [List.getElem?_map, List.getElem?_range hlt]
      show some (F + (i - F)) = some i
      congr 1
      omega
    · rw [hl, List.getElem?_append_right (Nat.le_add_right _ _), Nat.add_sub_cancel_left]
      exact h
theorem xA2 {cA : Nat → ClassId} {hr : Nat → Nat → Nat} {rs : Nat → BooS} {wf wB w1B w2f : va_W} {F k : Nat} {b' : BooS} (isF : List Nat) (hC : isF.map (fun i => wf[i]?) = wB.map some) (hk : k < 9) (hs : ∀ (i : Nat) (q : Nat × va_E), w2f[i]? = some q → (i ∉ isF ∧ wf[i]? = some q) ∨ ∃ k : Nat, isF[k]? = some i ∧ w1B[k]? = some q) (h2 : w2f.length = F) (hF : wf.length = F) :
    ∀ (i : Nat) (q : Nat × va_E), (w2f ++ RowW cA hr (uprow rs k b'))[i]? = some q → (i ∉ rp F k ++ isF ∧ (wf ++ RowW cA hr rs)[i]? = some q) ∨ ∃ j : Nat, (rp F k ++ isF)[j]? = some i ∧ (BooW cA (hr k) b' ++ w1B)[j]? = some q := by
  intro i q h
  have hrl : (rp F k).length = 25 := by unfold rp; rw [List.length_map, List.length_range]
  have hbl : (BooW cA (hr k) b').length = 25 := rfl
  by_cases hi : i < F
  · rw [List.getElem?_append_left (by omega)] at h
    rcases hs i q h with ⟨h3, h4⟩ | ⟨k1, h3, h4⟩
    · refine Or.inl ⟨fun hm => ?_, by rw [List.getElem?_append_left (by omega)]; exact h4⟩
      rcases List.mem_append.mp hm with hm | hm
      · obtain ⟨j, -, hj⟩ := List.mem_map.mp hm
        omega
      · exact h3 hm
    · refine Or.inr ⟨25 + k1, ?_, ?_⟩
      · rw [List.getElem?_append_right (by omega), hrl, Nat.add_sub_cancel_left]; exact h3
      · rw [List.getElem?_append_right (by omega), hbl, Nat.add_sub_cancel_left]; exact h4
  · rw [List.getElem?_append_right (by omega), h2] at h
    have hlt : i - F < 225 := by
      have := (List.getElem?_eq_some_iff.mp h).1
      rwa [RowW_len] at this
    obtain ⟨kk, jj, hkk, hjj, he⟩ : ∃ kk jj, kk < 9 ∧ jj < 25 ∧ i - F = 25 * kk + jj := ⟨(i - F) / 25, (i - F) % 25, by omega, by omega, by omega⟩
    rw [he, RowW_get cA hr _ hkk hjj] at h
    by_cases e : kk = k
    · subst e
      have e9 : uprow rs kk b' kk = b' := by simp [uprow]
      rw [e9] at h
      refine Or.inr ⟨jj, ?_, ?_⟩
      · rw [List.getElem?_append_left (by omega)]
        unfold rp
        rw [List.getElem?_map, List.getElem?_range hjj]
        show some (F + (25 * kk + jj)) = some i
        congr 1
        omega
      · rw [List.getElem?_append_left (by omega)]; exact h
    · have e9 : uprow rs k b' kk = rs kk := by simp [uprow, e]
      rw [e9] at h
      refine Or.inl ⟨fun hm => ?_, ?_⟩
      · rcases List.mem_append.mp hm with hm | hm
        · obtain ⟨j, hj, hj2⟩ := List.mem_map.mp hm
          have := List.mem_range.mp hj
          omega
        · have := xLt hC i hm
          omega
      · rw [List.getElem?_append_right (by omega), hF, he, RowW_get cA hr _ hkk hjj]; exact h
theorem xB2 {cA : Nat → ClassId} {hr : Nat → Nat → Nat} {rs : Nat → BooS} {wf wB w1B w2f : va_W} {F k : Nat} {b' : BooS} (isF : List Nat) (hC : isF.map (fun i => wf[i]?) = wB.map some) (hk : k < 9) (hs : ∀ (i : Nat) (q : Nat × va_E), w2f[i]? = some q → (i ∉ isF ∧ wf[i]? = some q) ∨ ∃ k : Nat, isF[k]? = some i ∧ w1B[k]? = some q) (h2 : w2f.length = F) (hl : isF.length = w1B.length) (hF : wf.length = F) :
    ∀ (i : Nat) (q : Nat × va_E), (w2f ++ RowW cA hr (uprow rs k b'))[i]? = some q → (i ∉ isF ++ rp F k ∧ (wf ++ RowW cA hr rs)[i]? = some q) ∨ ∃ j : Nat, (isF ++ rp F k)[j]? = some i ∧ (w1B ++ BooW cA (hr k) b')[j]? = some q := by
  intro i q h
  have hrl : (rp F k).length = 25 := by unfold rp; rw [List.length_map, List.length_range]
  rcases xA2 isF hC hk hs h2 hF i q h with ⟨h1, h2⟩ | h1
  · refine Or.inl ⟨fun hm => h1 ?_, h2⟩
    rcases List.mem_append.mp hm with hm | hm
    · exact List.mem_append_right _ hm
    · exact List.mem_append_left _ hm
  · exact Or.inr (xSwap (by rw [hrl]; rfl) hl h1)
theorem xR2 {wf w1 w2f t : va_W} {F : Nat} (isC : List Nat) (hs : ∀ (i : Nat) (q : Nat × va_E), w2f[i]? = some q → (i ∉ isC ∧ wf[i]? = some q) ∨ ∃ k : Nat, isC[k]? = some i ∧ w1[k]? = some q) (h2 : w2f.length = F) (hF : wf.length = F) (hlt : isC.all (fun i => decide (i < F)) = true) :
    ∀ (i : Nat) (q : Nat × va_E), (w2f ++ t)[i]? = some q → (i ∉ isC ∧ (wf ++ t)[i]? = some q) ∨ ∃ k : Nat, isC[k]? = some i ∧ w1[k]? = some q := by
  intro i q h
  by_cases hi : i < F
  · rw [List.getElem?_append_left (by omega)] at h
    rcases hs i q h with ⟨h3, h4⟩ | h5
    · exact Or.inl ⟨h3, by rw [List.getElem?_append_left (by omega)]; exact h4⟩
    · exact Or.inr h5
  · refine Or.inl ⟨fun hm => ?_, ?_⟩
    · have := List.all_eq_true.mp hlt i hm
      exact hi (of_decide_eq_true this)
    · rw [List.getElem?_append_right (by omega)] at h ⊢
      rw [hF, ← h2]
      exact h
