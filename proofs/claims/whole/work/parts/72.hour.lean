/-! ===== an hour passes ===== -/
def pre (x : SPe) : SPe := (x.1, x.2.1, x.2.2.1, x.2.2.2.1, x.2.2.2.2.1, x.2.2.2.2.2 - 1)
theorem tick_pre {x : SPe} (h : ¬ x.2.2.2.2.2 = 1) : tick x = pre x := by unfold tick pre; rw [if_neg h]
def duE (h : Nat) (AJ : SA × SJ) (x : SPe) : SA × SJ := if x.2.2.2.2.2 = 1 then (sMove AJ.1 x.1.toNat x.2.1.toNat x.2.2.1, sEnterJ AJ.2 x.1 x.2.1 x.2.2.1 h 0) else AJ
def duF (h : Nat) (AJ : SA × SJ) : SP → SA × SJ
  | [] => AJ
  | x :: r => duF h (duE h AJ x) r
def duC : SP → Nat
  | [] => 0
  | x :: r => (if x.2.2.2.2.2 = 1 then 1 else 0) + duC r
theorem duF_snoc (h : Nat) : ∀ (P : SP) (AJ : SA × SJ) (x : SPe), duF h AJ (P ++ [x]) = duE h (duF h AJ P) x := by
  intro P
  induction P with
  | nil => intro AJ x; rfl
  | cons y r ih => intro AJ x; exact ih (duE h AJ y) x
theorem duC_snoc : ∀ (P : SP) (x : SPe), duC (P ++ [x]) = duC P + (if x.2.2.2.2.2 = 1 then 1 else 0) := by
  intro P
  induction P with
  | nil => intro x; show _ + 0 = 0 + _; omega
  | cons y r ih => intro x; show _ + duC (r ++ [x]) = _ + duC r + _; rw [ih]; omega
theorem duC_le : ∀ P : SP, duC P ≤ P.length := by
  intro P
  induction P with
  | nil => exact Nat.le_refl _
  | cons y r ih => rw [duC, List.length_cons]; split <;> omega
theorem duF_n (h : Nat) : ∀ (P : SP) (AJ : SA × SJ), aN (duF h AJ P).1 = aN AJ.1 ∧ jN (duF h AJ P).2 = jN AJ.2 + duC P := by
  intro P
  induction P with
  | nil => intro AJ; exact ⟨rfl, rfl⟩
  | cons y r ih =>
    intro AJ
    obtain ⟨h1, h2⟩ := ih (duE h AJ y)
    rw [duF, h1, h2, duC]
    unfold duE
    split
    · exact ⟨rfl, by show jN AJ.2 + 1 + duC r = _; omega⟩
    · exact ⟨rfl, by omega⟩
section MH
variable {s : MS} {A : SA} {J : SJ} {P : SP} {n : Nat}
theorem m_isPrompt (N : Nat) {t : Nat} (h : GP s.1 t P) (hl : P.length ≤ 6) {z : Int} (hz : -2147483648 ≤ z ∧ z < 2147483648) : fX13_isPrompt N (iI z) s = some (iB (decide (0 ≤ z ∧ z < P.length))) := by
  unfold fX13_isPrompt
  rw [h.1]
  simp (disch := omega) only [xlet, xjoin, xnz_b0, xnz_b1, xnz_b, xcall_s, i_lit, i_add, i_sub, i_mul, i_neg, m_in]
  congr 2
  exact decide_eq_decide.mpr (by omega)
theorem m_ends {N : Nat} (hN : 2000 ≤ N) {t p : Nat} (h : GP s.1 t P) (hl : P.length ≤ 6) (hp : p < P.length) : ∃ g', fX13_ends N (iI (p : Int)) s = some (Ms0 s g') ∧ GP g' t (P.eraseIdx p) ∧ ∀ k, k ≠ 4 → (k < 157 ∨ 193 ≤ k) → g' k = s.1 k := by
  unfold fX13_ends xjoin
  dsimp only
  rw [show (157 : Int32) = iI 157 from rfl, m_endsShift hN _ (by omega)]
  refine ⟨_, rfl, ⟨?_, fun j y hy => ?_⟩, fun k h1 h2 => ?_⟩
  · simp only [upd_eq, Ms0, Ms1, Ms2, Ms3, Ms4, Ms5, Ms6, Ms7, Ms8, Ms9, Ms10, Ms11, Ms12, Ms13, Ms14, Ms15]
    have e : shG 157 6 p 6 s.1 4 = s.1 4 := by unfold shG; rw [if_neg (by omega)]
    rw [e, h.1, List.length_eraseIdx, if_pos hp, i_lit, i_sub]
    congr 1
    show (P.length : Int) - 1 = ((P.length - 1 : Nat) : Int)
    omega
  · have hj := lt_len hy
    simp only [List.length_eraseIdx, if_pos hp] at hj
    simp only [Ms0, Ms1, Ms2, Ms3, Ms4, Ms5, Ms6, Ms7, Ms8, Ms9, Ms10, Ms11, Ms12, Ms13, Ms14, Ms15]
    rw [upd_ne (by omega), upd_ne (by omega), upd_ne (by omega), upd_ne (by omega), upd_ne (by omega), upd_ne (by omega)]
    simp only [List.getElem?_eraseIdx] at hy
    by_cases hc : j < p
    · rw [if_pos hc] at hy
      unfold shG
      rw [if_neg (by omega), if_neg (by omega), if_neg (by omega), if_neg (by omega), if_neg (by omega), if_neg (by omega)]
      exact h.2 j y hy
    · rw [if_neg hc] at hy
      unfold shG
      rw [if_pos (by omega), if_pos (by omega), if_pos (by omega), if_pos (by omega), if_pos (by omega), if_pos (by omega)]
      exact h.2 (j + 1) y hy
  · simp only [Ms0, Ms1, Ms2, Ms3, Ms4, Ms5, Ms6, Ms7, Ms8, Ms9, Ms10, Ms11, Ms12, Ms13, Ms14, Ms15]
    rw [upd_ne h1]
    unfold shG
    rw [if_neg (by omega)]
theorem m_dropLoop {N : Nat} (hN : 2000 ≤ N) (K : Int32 → MS → Option (Int32 × MS)) (v : Int32) {t : Nat} (h : GP s.1 t P) (hl : P.length ≤ 6) (hw : ∀ x ∈ P, 0 ≤ x.2.2.2.2.1 ∧ x.2.2.2.2.1 ≤ 9) : ∃ g', fX13_passesHour_L131 N K N v (iI 5) s = K v (Ms0 s g') ∧ GP g' t (live P) ∧ ∀ k, k ≠ 4 → (k < 157 ∨ 193 ≤ k) → g' k = s.1 k := by
  refine loopM (F := fun n (z : Nat × (Nat → Int32) × SP) => fX13_passesHour_L131 N K n v (iI ((z.1 : Int) - 1)) (Ms0 s z.2.1)) (I := fun z => z.1 ≤ 6 ∧ GP z.2.1 t z.2.2 ∧ z.2.2 = P.take z.1 ++ live (P.drop z.1) ∧ ∀ k, k ≠ 4 → (k < 157 ∨ 193 ≤ k) → z.2.1 k = s.1 k) (μ := fun z => z.1) (P := fun r => ∃ g', r = K v (Ms0 s g') ∧ GP g' t (live P) ∧ ∀ k, k ≠ 4 → (k < 157 ∨ 193 ≤ k) → g' k = s.1 k) ?_ N (6, s.1, P) (by simp only; omega) ⟨Nat.le_refl _, h, by simp only; rw [List.take_of_length_le hl, List.drop_eq_nil_of_le hl]; exact (List.append_nil P).symm, fun _ _ _ => rfl⟩
  intro n ⟨q, g, M⟩ ⟨h1, h2, h3, h5⟩
  simp only at h1 h2 h3 h5 ⊢
  cases q with
  | zero =>
    left
    rw [List.take_zero, List.drop_zero, List.nil_append] at h3
    subst h3
    refine ⟨g, ?_, h2, h5⟩
    simp (disch := omega) only [fX13_passesHour_L131, i_lit, i_add, i_sub, i_mul, i_neg, i_le, i_lt, i_eq, l_cmp0, l_cmplt, l_cmpgt, l_cmple, l_cmpge, b_zero, b_one, decide_eq_false_iff_not, decide_eq_true_eq]
    rw [if_pos (by omega)]
  | succ p =>
    right
    have ep : ((p + 1 : Nat) : Int) - 1 = (p : Int) := by omega
    have fl : (live (P.drop (p + 1))).length ≤ (P.drop (p + 1)).length := List.length_filter_le _ _
    have hM : M.length ≤ 6 := by
      rw [h3, List.length_append, List.length_take]
      rw [List.length_drop] at fl
      omega
    have hI := m_isPrompt N (s := Ms0 s g) h2 hM (z := (p : Int)) (by omega)
    by_cases hp : p < P.length
    · obtain ⟨x, hx, hd, hm⟩ := drop_at hp
      have hr := hw x hm
      have ht : P.take (p + 1) = P.take p ++ [x] := by rw [List.take_add_one, hx]; rfl
      rw [ht] at h3
      have htl : (P.take p).length = p := by rw [List.length_take]; omega
      have hMp : M[p]? = some x := by
        rw [h3, List.append_assoc, List.getElem?_append_right (by omega), htl, Nat.sub_self]
        rfl
      have hpl := lt_len hMp
      have e2 : g (181 + p) = iI x.2.2.2.2.1 := (h2.2 p x hMp).2.2.2.2.1
      have he : M.eraseIdx p = P.take p ++ live (P.drop (p + 1)) := by
        rw [h3, List.append_assoc, List.eraseIdx_append_of_length_le (by omega), htl, Nat.sub_self]
        rfl
      rw [decide_eq_true (by omega)] at hI
      by_cases hz : x.2.2.2.2.1 = 0
      · obtain ⟨g', d1, d2, d3⟩ := m_ends (s := Ms0 s g) hN (p := p) h2 hM hpl
        refine ⟨(p, g', M.eraseIdx p), ?_, ⟨by simp only; omega, d2, ?_, fun j a b => ?_⟩, by simp only; omega⟩
        · simp (disch := omega) only [fX13_passesHour_L131, ep, hI, xlet, xjoin, xnz_b0, xnz_b1, xnz_b, xcall_s, Ms0, Ms1, Ms2, Ms3, Ms4, Ms5, Ms6, Ms7, Ms8, Ms9, Ms10, Ms11, Ms12, Ms13, Ms14, Ms15, i_lit, i_add, xrd_ln, e2, i_lit, i_add, i_sub, i_mul, i_neg, i_le, i_lt, i_eq, l_cmp0, l_cmplt, l_cmpgt, l_cmple, l_cmpge, b_zero, b_one, decide_eq_false_iff_not, decide_eq_true_eq, eq_self, if_true, Int.reduceEq, if_false]
          rw [if_neg (by omega), if_neg (by decide), if_pos hz]
          rw [d1, xcall_s, ← Int.sub_eq_add_neg]
        · simp only
          rw [he, hd]
          unfold live
          rw [List.filter_cons_of_neg (by simp [hz])]
        · simp only
          rw [d3 j a b]
          exact h5 j a b
      · refine ⟨(p, g, M), ?_, ⟨by simp only; omega, h2, ?_, h5⟩, by simp only; omega⟩
        · simp (disch := omega) only [fX13_passesHour_L131, ep, hI, xlet, xjoin, xnz_b0, xnz_b1, xnz_b, xcall_s, Ms0, Ms1, Ms2, Ms3, Ms4, Ms5, Ms6, Ms7, Ms8, Ms9, Ms10, Ms11, Ms12, Ms13, Ms14, Ms15, i_lit, i_add, xrd_ln, e2, i_lit, i_add, i_sub, i_mul, i_neg, i_le, i_lt, i_eq, l_cmp0, l_cmplt, l_cmpgt, l_cmple, l_cmpge, b_zero, b_one, decide_eq_false_iff_not, decide_eq_true_eq, eq_self, if_true, Int.reduceEq, if_false]
          rw [if_neg (by omega), if_neg (by decide), if_neg hz]
          rw [← Int.sub_eq_add_neg]
        · simp only
          rw [h3, hd]
          unfold live
          rw [List.filter_cons_of_pos (by simpa using (by omega : 0 < x.2.2.2.2.1)), List.append_assoc]
          rfl
    · have hMl : M = P := by rw [h3, List.take_of_length_le (by omega), List.drop_eq_nil_of_le (by omega)]; exact List.append_nil P
      rw [decide_eq_false (by rw [hMl]; omega)] at hI
      refine ⟨(p, g, M), ?_, ⟨by simp only; omega, h2, ?_, h5⟩, by simp only; omega⟩
      · simp (disch := omega) only [fX13_passesHour_L131, ep, hI, xlet, xjoin, xnz_b0, xnz_b1, xnz_b, xcall_s, Ms0, Ms1, Ms2, Ms3, Ms4, Ms5, Ms6, Ms7, Ms8, Ms9, Ms10, Ms11, Ms12, Ms13, Ms14, Ms15, i_lit, i_add, i_sub, i_mul, i_neg, i_le, i_lt, i_eq, l_cmp0, l_cmplt, l_cmpgt, l_cmple, l_cmpge, b_zero, b_one, decide_eq_false_iff_not, decide_eq_true_eq, eq_self, if_true, Int.reduceEq, if_false]
        rw [if_neg (by omega)]
        rw [← Int.sub_eq_add_neg]
      · simp only
        rw [hMl, List.take_of_length_le (by omega), List.drop_eq_nil_of_le (by omega)]
        exact (List.append_nil P).symm
end MH
section MD
variable {s : MS} {A : SA} {J : SJ} {P : SP} {n : Nat}
theorem GP.upd {g : Nat → Int32} {t : Nat} (h : GP g t P) (hl : P.length ≤ 6) {i : Nat} {x : SPe} (hx : P[i]? = some x) (a b : Int) : GP (upd (upd g (187 + i) (iI ((t : Int) + b - x.2.2.2.1))) (181 + i) (iI a)) t (P.set i (x.1, x.2.1, x.2.2.1, x.2.2.2.1, a, b)) := by
  have hi := lt_len hx
  refine ⟨by rw [upd_ne (by omega), upd_ne (by omega), List.length_set]; exact h.1, fun j y hy => ?_⟩
  have hj := lt_len hy
  rw [List.length_set] at hj
  rw [List.getElem?_set] at hy
  by_cases e : i = j
  · subst e
    rw [if_pos rfl, if_pos hi] at hy
    cases hy
    have := h.2 i x hx
    simp (disch := omega) only [upd_ne, upd_eq]
    exact ⟨this.1, this.2.1, this.2.2.1, this.2.2.2.1, by trivial, by trivial⟩
  · rw [if_neg e] at hy
    have := h.2 j y hy
    simp (disch := omega) only [upd_ne, upd_eq]
    exact this
/-- the reference's walk over the prompts of an hour -/
theorem m_dueLoop {N : Nat} (hN : 2000 ≤ N) (K : Int32 → MS → Option (Int32 × MS)) {t : Nat} (ht : t < 1000000) (hA : GA s.1 A) (hJ : GJ s.1 J) (hP : GP s.1 t (P.map pre)) (h0 : s.1 0 = iI (t : Int)) (hn : aN A ≤ 12) (hj : jN J < 999990) (w : WP P (aN A)) : ∃ g', fX13_passesHour_L14 N K N (iI 0) (iI 0) s = K (iI (duC P : Int)) (Ms0 s g') ∧ GA g' (duF t (A, J) P).1 ∧ GJ g' (duF t (A, J) P).2 ∧ GP g' t (P.map tick) ∧ ∀ k, k = 0 ∨ (5 ≤ k ∧ k < 9) ∨ 193 ≤ k → g' k = s.1 k := by
  have hl := w.1
  refine loopP (F := fun n (z : (Nat → Int32) × Int) i => fX13_passesHour_L14 N K n (iI z.2) (iI (i : Int)) (Ms0 s z.1)) (I := fun z i => z.2 = duC (P.take i) ∧ GA z.1 (duF t (A, J) (P.take i)).1 ∧ GJ z.1 (duF t (A, J) (P.take i)).2 ∧ GP z.1 t ((P.take i).map tick ++ (P.drop i).map pre) ∧ ∀ k, k = 0 ∨ (5 ≤ k ∧ k < 9) ∨ 193 ≤ k → z.1 k = s.1 k) (m := P.length) (P := fun r => ∃ g', r = K (iI (duC P : Int)) (Ms0 s g') ∧ GA g' (duF t (A, J) P).1 ∧ GJ g' (duF t (A, J) P).2 ∧ GP g' t (P.map tick) ∧ ∀ k, k = 0 ∨ (5 ≤ k ∧ k < 9) ∨ 193 ≤ k → g' k = s.1 k) ?_ ?_ N 0 (s.1, 0) (by omega) (by omega) ⟨rfl, hA, hJ, hP, fun _ _ => rfl⟩
  · intro n ⟨g, c⟩ i hi ⟨h1, h2, h3, h4, h5⟩
    simp only at h1 h2 h3 h4 h5 ⊢
    obtain ⟨x, hx, hd, hm⟩ := drop_at hi
    have q := (w.2 x hm).1
    unfold WPe at q
    have htk : P.take (i + 1) = P.take i ++ [x] := by rw [List.take_add_one, hx]; rfl
    have htl : (P.take i).length = i := by rw [List.length_take]; omega
    have hlen : ((P.take i).map tick ++ (P.drop i).map pre).length = P.length := by
      rw [List.length_append, List.length_map, List.length_map, ← List.length_append, List.take_append_drop]
    have hxi : ((P.take i).map tick ++ (P.drop i).map pre)[i]? = some (pre x) := by
      rw [List.getElem?_append_right (by rw [List.length_map]; omega), List.length_map, htl, Nat.sub_self, hd]
      rfl
    have g1 := h4.2 i (pre x) hxi
    have g4 : g 4 = iI (P.length : Int) := by rw [h4.1, hlen]
    have g0 : g 0 = iI (t : Int) := by rw [h5 0 (by omega)]; exact h0
    have e1 : g (157 + i) = iI x.1 := g1.1
    have e2 : g (163 + i) = iI x.2.1 := g1.2.1
    have e3 : g (169 + i) = iI x.2.2.1 := g1.2.2.1
    have e4 : g (175 + i) = iI x.2.2.2.1 := g1.2.2.2.1
    have e5 : g (181 + i) = iI x.2.2.2.2.1 := g1.2.2.2.2.1
    have e6 : g (187 + i) = iI ((t : Int) + (x.2.2.2.2.2 - 1) - x.2.2.2.1) := g1.2.2.2.2.2
    right
    obtain ⟨d, hd9⟩ := Int.eq_ofNat_of_zero_le q.1
    obtain ⟨c9, hc9⟩ := Int.eq_ofNat_of_zero_le q.2.2.1
    obtain ⟨n1, n2⟩ := duF_n t (P.take i) (A, J)
    have n3 := duC_le (P.take i)
    by_cases hdue : x.2.2.2.2.2 = 1
    · obtain ⟨g', d1, d2, d3, d4⟩ := m_enters (s := Ms0 s g) hN h2 h3 (h := t) g0 (by rw [n1]; exact hn) (by rw [n2]; show jN J + duC (P.take i) < 1000000; omega) (d := d) (c := c9) (by rw [n1]; show d < aN A; omega) (by rw [n1]; show c9 < aN A; omega) x.2.2.1 0
      have g'0 : g' 0 = iI (t : Int) := by rw [d4 0 (by omega)]; exact g0
      have g'5 : g' (181 + i) = iI x.2.2.2.2.1 := by rw [d4 _ (by omega)]; exact e5
      have eF : duF t (A, J) (P.take (i + 1)) = (sMove (duF t (A, J) (P.take i)).1 d c9 x.2.2.1, sEnterJ (duF t (A, J) (P.take i)).2 d c9 x.2.2.1 t 0) := by
        rw [htk, duF_snoc]
        unfold duE
        rw [if_pos hdue, hd9, hc9]
        rfl
      have hP' : GP g' t ((P.take i).map tick ++ (P.drop i).map pre) := h4.of (by rw [hlen]; exact hl) fun k hk => d4 k (by omega)
      have hU := hP'.upd (by rw [hlen]; exact hl) hxi (x.2.2.2.2.1 - 1) x.2.2.2.1
      refine ⟨(upd (upd g' (187 + i) (iI (t : Int))) (181 + i) (iI (x.2.2.2.2.1 - 1)), c + 1), ?_, ?_, ?_, ?_, ?_, fun k hk => ?_⟩
      · simp (disch := omega) only [fX13_passesHour_L14, xlet, xjoin, xnz_b0, xnz_b1, xnz_b, xcall_s, Ms0, Ms1, Ms2, Ms3, Ms4, Ms5, Ms6, Ms7, Ms8, Ms9, Ms10, Ms11, Ms12, Ms13, Ms14, Ms15, g4, g0, i_lit, i_add, xrd_ln, e1, e2, e3, e4, e6, i_lit, i_add, i_sub, i_mul, i_neg, i_le, i_lt, i_eq, l_cmp0, l_cmplt, l_cmpgt, l_cmple, l_cmpge, b_zero, b_one, decide_eq_false_iff_not, decide_eq_true_eq, i_succ]
        rw [if_neg (by omega), if_pos (by omega)]
        rw [hd9, hc9, d1]
        simp (disch := omega) only [xlet, xjoin, xnz_b0, xnz_b1, xnz_b, xcall_s, Ms0, Ms1, Ms2, Ms3, Ms4, Ms5, Ms6, Ms7, Ms8, Ms9, Ms10, Ms11, Ms12, Ms13, Ms14, Ms15, g'0, upd_ne, g'5, i_sub]
      · simp only
        rw [htk, duC_snoc, if_pos hdue, h1]
        omega
      · rw [eF]
        refine d2.of (by show aN (duF t (A, J) (P.take i)).1 ≤ 12; rw [n1]; exact hn) fun k hk => ?_
        simp (disch := omega) only [upd_ne]
      · rw [eF]
        refine d3.of fun k hk => ?_
        simp (disch := omega) only [upd_ne]
      · have e9 : (P.take (i + 1)).map tick ++ (P.drop (i + 1)).map pre = ((P.take i).map tick ++ (P.drop i).map pre).set i (x.1, x.2.1, x.2.2.1, x.2.2.2.1, x.2.2.2.2.1 - 1, x.2.2.2.1) := by
          rw [List.set_append_right _ _ (by rw [List.length_map]; omega), List.length_map, htl, Nat.sub_self, hd, htk, List.map_append, List.append_assoc]
          congr 1
          show [tick x] ++ _ = _ :: _
          have : tick x = (x.1, x.2.1, x.2.2.1, x.2.2.2.1, x.2.2.2.2.1 - 1, x.2.2.2.1) := by unfold tick; rw [if_pos hdue]
          rw [this]
          rfl
        rw [e9]
        have e10 : (t : Int) + x.2.2.2.1 - x.2.2.2.1 = t := by omega
        have hU2 : GP (upd (upd g' (187 + i) (iI ((t : Int) + x.2.2.2.1 - x.2.2.2.1))) (181 + i) (iI (x.2.2.2.2.1 - 1))) t (((P.take i).map tick ++ (P.drop i).map pre).set i (x.1, x.2.1, x.2.2.1, x.2.2.2.1, x.2.2.2.2.1 - 1, x.2.2.2.1)) := hU
        rw [e10] at hU2
        exact hU2
      · simp (disch := omega) only [upd_ne]
        rw [d4 k (by omega)]
        exact h5 k hk
    · have eF : duF t (A, J) (P.take (i + 1)) = duF t (A, J) (P.take i) := by
        rw [htk, duF_snoc]
        unfold duE
        rw [if_neg hdue]
      refine ⟨(g, c), ?_, ?_, ?_, ?_, ?_, h5⟩
      · simp (disch := omega) only [fX13_passesHour_L14, xlet, xjoin, xnz_b0, xnz_b1, xnz_b, xcall_s, Ms0, Ms1, Ms2, Ms3, Ms4, Ms5, Ms6, Ms7, Ms8, Ms9, Ms10, Ms11, Ms12, Ms13, Ms14, Ms15, g4, g0, i_lit, i_add, xrd_ln, e1, e2, e3, e4, e6, i_lit, i_add, i_sub, i_mul, i_neg, i_le, i_lt, i_eq, l_cmp0, l_cmplt, l_cmpgt, l_cmple, l_cmpge, b_zero, b_one, decide_eq_false_iff_not, decide_eq_true_eq, i_succ]
        rw [if_neg (by omega), if_neg (by omega)]
      · simp only
        rw [htk, duC_snoc, if_neg hdue, h1]
        omega
      · rw [eF]; exact h2
      · rw [eF]; exact h3
      · have e9 : (P.take (i + 1)).map tick ++ (P.drop (i + 1)).map pre = (P.take i).map tick ++ (P.drop i).map pre := by
          rw [hd, htk, List.map_append, List.append_assoc]
          congr 1
          show [tick x] ++ _ = pre x :: _
          rw [tick_pre hdue]
          rfl
        rw [e9]
        exact h4
  · intro n ⟨g, c⟩ ⟨h1, h2, h3, h4, h5⟩
    simp only at h1 h2 h3 h4 h5 ⊢
    rw [List.take_of_length_le (Nat.le_refl _)] at h1 h2 h3 h4
    rw [List.drop_eq_nil_of_le (Nat.le_refl _), List.map_nil, List.append_nil] at h4
    have g4 : g 4 = iI (P.length : Int) := by rw [h4.1, List.length_map]
    refine ⟨g, ?_, h2, h3, h4, h5⟩
    simp (disch := omega) only [fX13_passesHour_L14, xlet, xjoin, xnz_b0, xnz_b1, xnz_b, xcall_s, Ms0, Ms1, Ms2, Ms3, Ms4, Ms5, Ms6, Ms7, Ms8, Ms9, Ms10, Ms11, Ms12, Ms13, Ms14, Ms15, g4, i_le, i_lt, i_eq, l_cmp0, l_cmplt, l_cmpgt, l_cmple, l_cmpge, b_zero, b_one, decide_eq_false_iff_not, decide_eq_true_eq]
    rw [if_pos (by omega), h1]
end MD
