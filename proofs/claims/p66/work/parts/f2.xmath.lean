/-! ===== the first two objects: what the law's texts and calls make of what was built ===== -/
theorem lO_t (W : SO) (g : GO) : (lO W g).2.2.2.2 = W.2.2 := by
  unfold lO
  split
  · rfl
  · rfl
theorem bM_t (q : Nat) (cv ac nn : Int32) (Wo : SO) : (bM q cv ac nn Wo).2.2 = Wo.2.2 := by
  unfold bM
  split
  · exact lO_t _ _
  · exact lO_t _ _
  · exact lO_t _ _
  · exact lO_t _ _
  · exact lO_t _ _
  · exact lO_t _ _
  · exact lO_t _ _
  · exact lO_t _ _
  · exact lO_t _ _
  · exact lO_t _ _
  · unfold bM10
    split
    · rfl
    · exact lO_t _ _
  · rfl
  · exact lO_t _ _
  · exact lO_t _ _
  · exact lO_t _ _
  · rfl
theorem bP_t (cv nn : Int32) (Wo : SO) : (bP cv nn Wo).2.2 = Wo.2.2 := by
  unfold bP
  split
  · exact lO_t _ _
  · rfl
theorem bIter_t (cv : Int32) (Wo : SO) : (bIter cv Wo).2.2 = Wo.2.2 := by
  unfold bIter
  rw [bP_t, bM_t]
  exact lO_t _ _
theorem bLoop_t (L : Nat) (xs : Nat → Int32) : ∀ (j k : Nat) (Wo : SO), (bLoop L xs j k Wo).2.2 = Wo.2.2 := by
  intro j
  induction j with
  | zero => intro k Wo; rfl
  | succ j ih => intro k Wo; rw [bLoop, ih, bIter_t]
theorem bA_t (zz : Int32) : ∀ (j k : Nat) (Wo : SO), (bA zz j k Wo).2.2 = Wo.2.2 := by
  intro j
  induction j with
  | zero => intro k Wo; rfl
  | succ j ih => intro k Wo; rw [bA, ih]; exact lO_t _ _
theorem bO_t (zz : Int32) (Wo : SO) : (bO zz Wo).2.2 = Wo.2.2 := by
  unfold bO
  split
  · exact lO_t _ _
  · rfl
theorem bW_t (L : Nat) (xs : Nat → Int32) : (bW L xs).2.2 = (none, [], -1, -1, []) := by
  unfold bW
  rw [bLoop_t, bO_t, bA_t]
  rfl
/-- the books, the text empty, what was saved -/
def XF (S : SG) (B : SG) (Wo : SO) : Prop := oS Wo = S ∧ oT Wo = [] ∧ oV Wo = some B
theorem rd1 : rdT (txI 1) = (true, [(7, [2]), (8, []), (7, [])], (txI 1).length) := by decide +kernel
theorem rd2 : rdT (txI 2) = (true, [(7, []), (6, [0])], (txI 2).length) := by decide +kernel
theorem rd3 : rdT (txI 3) = (true, [(3, [0, 5])], (txI 3).length) := by decide +kernel
def S3 (S : SG) : SG := sHours 1 (sFall (sHours 2 S))
theorem gr1 (S : SG) : gRun [(7, [2]), (8, []), (7, [])] 0 S = (none, S3 S) := rfl
theorem gr2 (S : SG) : ∃ S', gRun [(7, []), (6, [0])] 0 S = (some 1, S') := ⟨_, rfl⟩
theorem gr3 (S : SG) : gRun [(3, [0, 5])] 0 S = (some 0, S) := rfl
theorem tW_S (W : SO) (T : List Int) : oS (tW W T) = oS W := rfl
theorem x_run1 {S B : SG} {X : SO} (h : XF S B X) : (oRun (tW X (txI 1))).1 = 0 ∧ (oRun (tW X (txI 1))).2.1 = 3 ∧ XF (S3 S) B (oRun (tW X (txI 1))).2.2 ∧ oH (oRun (tW X (txI 1))).2.2 = pushH (oH X) S := by
  obtain ⟨h1, h2, h3⟩ := h
  have e : oRun (tW X (txI 1)) = (0, 3, (S3 S, pushH (oH X) S, oV X, [], oE X, oF X, oO X)) := by
    have hg : gRun (rdT (oT (tW X (txI 1)))).2.1 0 (oS (tW X (txI 1))) = (none, S3 S) := by
      rw [show oT (tW X (txI 1)) = txI 1 from rfl, rd1, ← h1]
      exact gr1 _
    unfold oRun
    rw [hg, if_pos (by rw [show oT (tW X (txI 1)) = txI 1 from rfl, rd1]; exact ⟨rfl, rfl⟩)]
    show (0, ((rdT (txI 1)).2.1.length : Int), (S3 S, pushH (oH X) (oS X), oV X, [], oE X, oF X, oO X)) = _
    rw [h1, rd1]
    rfl
  rw [e]
  exact ⟨rfl, rfl, ⟨rfl, rfl, h3⟩, rfl⟩
theorem x_run2 {S B : SG} {X : SO} (h : XF S B X) : resN (oRun (tW X (txI 2))) = -2 ∧ XF S B (oRun (tW X (txI 2))).2.2 ∧ oF (oRun (tW X (txI 2))).2.2 = 1 := by
  obtain ⟨h1, h2, h3⟩ := h
  have e : oRun (tW X (txI 2)) = (5, 0, (oS X, oH X, oV X, [], oE X, 1, oO X)) := by
    have hg : ∃ S', gRun (rdT (oT (tW X (txI 2)))).2.1 0 (oS (tW X (txI 2))) = (some 1, S') := by
      rw [show oT (tW X (txI 2)) = txI 2 from rfl, rd2]
      exact ⟨_, rfl⟩
    obtain ⟨S', hg⟩ := hg
    unfold oRun
    rw [hg, if_pos (by rw [show oT (tW X (txI 2)) = txI 2 from rfl, rd2]; exact ⟨rfl, rfl⟩)]
    rfl
  rw [e]
  exact ⟨rfl, ⟨h1, rfl, h3⟩, rfl⟩
theorem x_run3 {S B : SG} {X : SO} (h : XF S B X) : resN (oRun (tW X (txI 3))) = -2 ∧ XF S B (oRun (tW X (txI 3))).2.2 ∧ oF (oRun (tW X (txI 3))).2.2 = 0 := by
  obtain ⟨h1, h2, h3⟩ := h
  have e : oRun (tW X (txI 3)) = (5, 0, (oS X, oH X, oV X, [], oE X, 0, oO X)) := by
    have hg : ∃ S', gRun (rdT (oT (tW X (txI 3)))).2.1 0 (oS (tW X (txI 3))) = (some 0, S') := by
      rw [show oT (tW X (txI 3)) = txI 3 from rfl, rd3]
      exact ⟨_, rfl⟩
    obtain ⟨S', hg⟩ := hg
    unfold oRun
    rw [hg, if_pos (by rw [show oT (tW X (txI 3)) = txI 3 from rfl, rd3]; exact ⟨rfl, rfl⟩)]
    rfl
  rw [e]
  exact ⟨rfl, ⟨h1, rfl, h3⟩, rfl⟩
/-! the history's end -/
def EH (W : SO) (L : List SG) : Prop := ∃ P, oH W = P ++ L
theorem pushH_end {H P L : List SG} {S : SG} (h : H = P ++ L) (hL : L.length < 8) : ∃ P', pushH H S = P' ++ (L ++ [S]) := by
  unfold pushH
  split
  · rename_i h8
    cases P with
    | nil =>
      rw [h] at h8
      simp at h8
      omega
    | cons p P =>
      refine ⟨P, ?_⟩
      rw [h]
      show (P ++ L) ++ [S] = _
      rw [List.append_assoc]
  · refine ⟨P, ?_⟩
    rw [h, List.append_assoc]
theorem EH.st {W : SO} {L : List SG} (h : EH W L) (hL : L.length < 8) (S' : SG) : EH (stO W S') (L ++ [oS W]) := by
  obtain ⟨P, hP⟩ := h
  exact pushH_end hP hL
theorem V.hl {n : Nat} {t : ThlS} {r : Nat → BooS} {W : SO} (h : V n t r W) : (oH W).length ≤ 8 := by
  obtain ⟨_, a, b, _, h⟩ := h
  exact h.2.2.2.1
theorem V.rg {n : Nat} {t : ThlS} {r : Nat → BooS} {W : SO} (h : V n t r W) (hn : n ≤ 512) : jN (gJ (oS W)) ≤ 73728 ∧ gH (oS W) ≤ 12288 := by
  obtain ⟨_, a, b, hab, h⟩ := h
  obtain ⟨_, _, h3, h4, _, _⟩ := h.1.2.rng (by omega)
  exact ⟨h3, h4⟩
theorem un_of {W : SO} {L : List SG} {S : SG} (h : EH W (L ++ [S])) : ∃ P, oUndo W = (0, ((P ++ L).length : Int), (S, P ++ L, W.2.2)) ∧ oH W = P ++ (L ++ [S]) := by
  obtain ⟨P, hP⟩ := h
  refine ⟨P, ?_, hP⟩
  unfold oUndo
  rw [hP, ← List.append_assoc]
  rw [if_neg (by simp), List.dropLast_concat]
  rw [List.getLastD_concat]
/-- undoing: the last of the history -/
theorem xy_undo {n : Nat} {t : ThlS} {r : Nat → BooS} {W : SO} {L : List SG} {S : SG} (hV : V n t r W) (h : EH W (L ++ [S])) : ∃ t' r' v W', fX12_undo 2000 t r = some (0, v, t', r') ∧ ¬ v < 0 ∧ V (n + 1) t' r' W' ∧ oS W' = S ∧ EH W' L ∧ W'.2.2 = W.2.2 := by
  obtain ⟨t', r', q1, q2⟩ := V_undo hV
  obtain ⟨P, e, eH⟩ := un_of h
  rw [e] at q1 q2
  have hl := hV.hl
  rw [eH] at hl
  refine ⟨t', r', iI ((P ++ L).length : Int), _, q1, ?_, q2, rfl, ⟨P, rfl⟩, rfl⟩
  simp only [List.length_append, List.length_cons, List.length_nil] at hl
  rw [List.length_append, show (0 : Int32) = iI 0 from rfl, i_lt (by omega) (by omega) (by omega) (by omega)]
  omega
theorem hoursC_le {S : SG} (w : WG S) : ∀ k : Nat, jN (gJ S) + 6 * k < 1000000 → gH S + k < 1000000 → sHoursC k S ≤ 6 * k := by
  intro k
  induction k with
  | zero => intro _ _; exact Nat.le_refl _
  | succ k ih =>
    intro h1 h2
    have h3 := ih (by omega) (by omega)
    have h4 := (hours_W w k (by omega) (by omega)).1.fr.2.1
    have h5 := duC_le (gP (sHours k S))
    show sHoursC k S + duC (gP (sHours k S)) ≤ _
    omega
theorem xy_pass {n : Nat} {t : ThlS} {r : Nat → BooS} {W : SO} (hV : V n t r W) (hn : n + 1 ≤ 512) (z : Int32) (k : Nat) (hz : z.toInt = (k : Int)) (hk : 1 ≤ k ∧ k ≤ 24) : ∃ t' r' v, fX12_passHours 2000 z t r = some (0, v, t', r') ∧ ¬ v < 0 ∧ V (n + 1) t' r' (stO W (sHours k (oS W))) := by
  obtain ⟨t', r', q1, q2⟩ := V_passHours hV hn z
  have e : lO W (gPass (oS W) z.toInt) = (0, (sHoursC k (oS W) : Int), stO W (sHours k (oS W))) := by
    unfold gPass
    rw [hz, if_pos (by omega)]
    rfl
  rw [e] at q1 q2
  obtain ⟨h1, h2⟩ := hV.rg (by omega)
  have h3 := hoursC_le hV.w k (by omega) (by omega)
  refine ⟨t', r', iI (sHoursC k (oS W) : Int), q1, ?_, q2⟩
  rw [show (0 : Int32) = iI 0 from rfl, i_lt (by omega) (by omega) (by omega) (by omega)]
  omega
theorem gain_nb {S : SG} (w : WG S) : -(nbS (gA S)) ≤ sumN (gainAt (gA S)) (aN (gA S)) ∧ sumN (gainAt (gA S)) (aN (gA S)) ≤ nbS (gA S) := by
  have hk : aK (gA S) 3 = 108 := w.1.2.2.2.2.2
  refine sum_bd (aN (gA S)) fun i _ => ?_
  have h1 := iabs_le (aD (gA S) i - aC (gA S) i)
  have h2 := nb_nn (gA S) i
  unfold gainAt
  unfold nb at h2 ⊢
  by_cases h : i = 3
  · subst h
    rw [if_pos rfl, hk, if_neg (by omega)]
    omega
  · rw [if_neg h] at h2 ⊢
    split
    · omega
    · omega
theorem xy_cur {n : Nat} {t : ThlS} {r : Nat → BooS} {W : SO} (hV : V n t r W) (hn : n ≤ 45) : ∃ t' r' v, fX12_curtain 2000 t r = some (v, t', r') ∧ ¬ v < -900000 ∧ V (n + 1) t' r' (stO W (sFall (oS W))) := by
  obtain ⟨t', r', q1, q2⟩ := V_curtain hV (by omega)
  refine ⟨t', r', _, q1, ?_, q2⟩
  have w := hV.w
  obtain ⟨_, a, b, hab, hw⟩ := hV
  have h1 := hw.1.2.1
  have h2 := (psi_nn w).1
  have h3 := gain_nb w
  show ¬ iI (sumN (gainAt (gA (oS W))) (aN (gA (oS W)))) < iI (-900000)
  rw [i_lt (by omega) (by omega) (by omega) (by omega)]
  omega
