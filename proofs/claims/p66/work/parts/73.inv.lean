/-! ===== what holds at all times; how it is kept ===== -/
def iabs (x : Int) : Int := if 0 ≤ x then x else -x
theorem iabs_nn (x : Int) : 0 ≤ iabs x := by unfold iabs; split <;> omega
theorem iabs_le (x : Int) : x ≤ iabs x ∧ -x ≤ iabs x := by unfold iabs; split <;> omega
theorem iabs_add (x y : Int) : iabs (x + y) ≤ iabs x + iabs y := by unfold iabs; split <;> split <;> split <;> omega
def nb (A : SA) (i : Nat) : Int := if i = 3 then 0 else iabs (aD A i - aC A i)
def nbS (A : SA) : Int := sumN (nb A) (aN A)
def eW (J : SJ) (e : Nat) : Int := if jM J e = 0 ∧ 999 < jA J e then jA J e else 0
def bigE (J : SJ) : Int := sumN (fun j => eW J (jN J - jK J + j)) (jK J)
def pV : SP → Int
  | [] => 0
  | x :: r => x.2.2.2.2.1 * x.2.2.1 + pV r
theorem nb_nn (A : SA) (i : Nat) : 0 ≤ nb A i := by
  unfold nb
  split
  · exact Int.le_refl _
  · exact iabs_nn _
theorem eW_nn (J : SJ) (e : Nat) : 0 ≤ eW J e := by unfold eW; split <;> omega
theorem nbS_nn (A : SA) : 0 ≤ nbS A := sumN_nonneg _ (fun i _ => nb_nn A i)
theorem bigE_nn (J : SJ) : 0 ≤ bigE J := sumN_nonneg _ (fun i _ => eW_nn J _)
theorem eW_ge {J : SJ} {e : Nat} (h1 : jN J - jK J ≤ e) (h2 : e < jN J) : eW J e ≤ bigE J := by
  have hk : jK J ≤ jN J := by unfold jK; omega
  have := sumN_ge (f := fun j => eW J (jN J - jK J + j)) (jK J) (fun i _ => eW_nn J _) (e - (jN J - jK J)) (by omega)
  rw [show jN J - jK J + (e - (jN J - jK J)) = e by omega] at this
  exact this
def WB0 (A : SA) : Prop := 6 ≤ aN A ∧ aN A ≤ 12 ∧ (∀ i, i < aN A → isKd (aK A i) ∧ -1 ≤ aP A i ∧ aP A i < i ∧ 0 ≤ aD A i ∧ 0 ≤ aC A i) ∧ sumN (aD A) (aN A) = sumN (aC A) (aN A) ∧ (∀ i, aN A ≤ i → aD A i = 0 ∧ aC A i = 0) ∧ aK A 3 = 108
theorem sumN_sub (f g : Nat → Int) : ∀ n, sumN (fun i => f i - g i) n = sumN f n - sumN g n := by
  intro n
  induction n with
  | zero => rfl
  | succ n ih => rw [sumN, sumN, sumN, ih]; omega
theorem sum_but (f : Nat → Int) (c : Nat) : ∀ n, (iabs (sumN f n - (if c < n then f c else 0))) ≤ sumN (fun i => if i = c then 0 else iabs (f i)) n := by
  intro n
  induction n with
  | zero => show iabs (0 - (if c < 0 then f c else 0)) ≤ 0; rw [if_neg (by omega)]; decide
  | succ n ih =>
    rw [sumN, sumN]
    by_cases h : n = c
    · subst h
      rw [if_pos (by omega), if_pos rfl]
      rw [if_neg (by omega)] at ih
      rw [show sumN f n + f n - f n = sumN f n - 0 by omega]
      omega
    · rw [if_neg h]
      have e : sumN f n + f n - (if c < n + 1 then f c else 0) = (sumN f n - (if c < n then f c else 0)) + f n := by
        by_cases h1 : c < n
        · rw [if_pos h1, if_pos (by omega)]; omega
        · rw [if_neg h1, if_neg (by omega)]; omega
      rw [e]
      have := iabs_add (sumN f n - (if c < n then f c else 0)) (f n)
      omega
theorem WA.of {A : SA} (h : WB0 A) (h1 : nbS A < 268435456) (h2 : sumN (aD A) (aN A) < 2147483648) : WA A := by
  refine ⟨h.1, h.2.1, h.2.2.1, h.2.2.2.1, h.2.2.2.2.1, h2, fun i hi => ?_⟩
  by_cases h3 : i = 3
  · subst h3
    have q := sum_but (fun i => aD A i - aC A i) 3 (aN A)
    rw [sumN_sub (aD A) (aC A), h.2.2.2.1, Int.sub_self, if_pos hi] at q
    have e : sumN (fun i => if i = 3 then 0 else iabs (aD A i - aC A i)) (aN A) = nbS A := rfl
    rw [e] at q
    have := iabs_le (0 - (aD A 3 - aC A 3))
    omega
  · have q := sumN_ge (f := nb A) (aN A) (fun i _ => nb_nn A i) i hi
    have e : nb A i = iabs (aD A i - aC A i) := by unfold nb; rw [if_neg h3]
    have := iabs_le (aD A i - aC A i)
    unfold nbS at h1
    omega
theorem move_W {A : SA} (h : WB0 A) {d c : Nat} (hd : d < aN A) (hc : c < aN A) {m : Int} (hm : 0 ≤ m) : WB0 (sMove A d c m) := by
  refine ⟨h.1, h.2.1, fun i hi => ?_, ?_, fun i hi => ?_, h.2.2.2.2.2⟩
  · have q := h.2.2.1 i hi
    refine ⟨q.1, q.2.1, q.2.2.1, ?_, ?_⟩
    · show 0 ≤ updI (aD A) d (aD A d + m) i
      by_cases e : i = d
      · subst e; rw [updI_eq]; omega
      · rw [updI_ne e]; exact q.2.2.2.1
    · show 0 ≤ updI (aC A) c (aC A c + m) i
      by_cases e : i = c
      · subst e; rw [updI_eq]; omega
      · rw [updI_ne e]; exact q.2.2.2.2
  · show sumN (updI (aD A) d (aD A d + m)) (aN A) = sumN (updI (aC A) c (aC A c + m)) (aN A)
    rw [sumN_upd, sumN_upd, if_pos hd, if_pos hc, h.2.2.2.1]
    omega
  · have hi : aN A ≤ i := hi
    show updI (aD A) d (aD A d + m) i = 0 ∧ updI (aC A) c (aC A c + m) i = 0
    rw [updI_ne (by omega), updI_ne (by omega)]
    exact h.2.2.2.2.1 i hi
theorem sum_ind (d : Nat) (m : Int) : ∀ n, sumN (fun i => if i = d then m else 0) n = if d < n then m else 0 := by
  intro n
  induction n with
  | zero => rfl
  | succ n ih =>
    rw [sumN, ih]
    by_cases h1 : d < n
    · rw [if_pos h1, if_neg (by omega), if_pos (by omega)]; omega
    · rw [if_neg h1]
      by_cases h2 : n = d
      · rw [if_pos h2, if_pos (by omega)]; omega
      · rw [if_neg h2, if_neg (by omega)]; omega
theorem sum_move {A : SA} {d c : Nat} (hd : d < aN A) {m : Int} : sumN (aD (sMove A d c m)) (aN A) = sumN (aD A) (aN A) + m := by
  show sumN (updI (aD A) d (aD A d + m)) (aN A) = _
  rw [sumN_upd, if_pos hd]
  omega
theorem nb_move (A : SA) (d c : Nat) (m : Int) (i : Nat) : nb (sMove A d c m) i = if i = 3 then 0 else iabs (aD A i - aC A i + (if i = d then m else 0) - (if i = c then m else 0)) := by
  have e1 : updI (aD A) d (aD A d + m) i = aD A i + (if i = d then m else 0) := by
    by_cases e : i = d
    · subst e; rw [updI_eq, if_pos rfl]
    · rw [updI_ne e, if_neg e]; omega
  have e2 : updI (aC A) c (aC A c + m) i = aC A i + (if i = c then m else 0) := by
    by_cases e : i = c
    · subst e; rw [updI_eq, if_pos rfl]
    · rw [updI_ne e, if_neg e]; omega
  show (if i = 3 then 0 else iabs (updI (aD A) d (aD A d + m) i - updI (aC A) c (aC A c + m) i)) = _
  rw [e1, e2]
  split
  · rfl
  · congr 1; omega
theorem nbS_move {A : SA} {d c : Nat} (hd : d < aN A) (hc : c < aN A) {m : Int} (hm : 0 ≤ m) : nbS (sMove A d c m) ≤ nbS A + (if d = 3 then 0 else m) + (if c = 3 then 0 else m) := by
  have h1 : sumN (nb (sMove A d c m)) (aN A) ≤ sumN (fun i => (nb A i + (if i = d then (if d = 3 then 0 else m) else 0)) + (if i = c then (if c = 3 then 0 else m) else 0)) (aN A) := by
    apply sumN_le
    intro i hi
    rw [nb_move]
    show _ ≤ nb A i + _ + _
    unfold nb
    by_cases h3 : i = 3
    · rw [if_pos h3, if_pos h3]
      have p1 : 0 ≤ (if i = d then (if d = 3 then 0 else m) else 0) := by
        split
        · split <;> omega
        · omega
      have p2 : 0 ≤ (if i = c then (if c = 3 then 0 else m) else 0) := by
        split
        · split <;> omega
        · omega
      omega
    · rw [if_neg h3, if_neg h3]
      have n1 : (if i = d then (if d = 3 then 0 else m) else 0) = (if i = d then m else 0) := by
        by_cases e : i = d
        · rw [if_pos e, if_pos e, if_neg (by omega)]
        · rw [if_neg e, if_neg e]
      have n2 : (if i = c then (if c = 3 then 0 else m) else 0) = (if i = c then m else 0) := by
        by_cases e : i = c
        · rw [if_pos e, if_pos e, if_neg (by omega)]
        · rw [if_neg e, if_neg e]
      rw [n1, n2]
      have p1 : 0 ≤ (if i = d then m else 0) := by split <;> omega
      have p2 : 0 ≤ (if i = c then m else 0) := by split <;> omega
      generalize (if i = d then m else 0) = x at p1 ⊢
      generalize (if i = c then m else 0) = y at p2 ⊢
      unfold iabs
      split <;> split <;> omega
  have h2 : sumN (fun i => (nb A i + (if i = d then (if d = 3 then 0 else m) else 0)) + (if i = c then (if c = 3 then 0 else m) else 0)) (aN A) = sumN (nb A) (aN A) + (if d = 3 then 0 else m) + (if c = 3 then 0 else m) := by
    rw [sumN_add (fun i => nb A i + (if i = d then (if d = 3 then 0 else m) else 0)) (fun i => if i = c then (if c = 3 then 0 else m) else 0), sumN_add (nb A) (fun i => if i = d then (if d = 3 then 0 else m) else 0), sum_ind, sum_ind, if_pos hd, if_pos hc]
  unfold nbS
  show sumN (nb (sMove A d c m)) (aN A) ≤ _
  omega
theorem nbS_level {A : SA} {i : Nat} (hi : i < aN A) (h3 : i ≠ 3) {d c : Nat} {m : Int} (hdc : (d = 3 ∧ c = i ∧ m = aD A i - aC A i) ∨ (d = i ∧ c = 3 ∧ m = -(aD A i - aC A i))) (hm : 0 ≤ m) : nbS (sMove A d c m) = nbS A - m := by
  have e : ∀ j, nb (sMove A d c m) j = updI (nb A) i 0 j := by
    intro j
    rw [nb_move]
    by_cases hj : j = i
    · subst hj
      rw [updI_eq, if_neg h3]
      have : aD A j - aC A j + (if j = d then m else 0) - (if j = c then m else 0) = 0 := by
        rcases hdc with ⟨h1, h2, h4⟩ | ⟨h1, h2, h4⟩
        · rw [if_neg (by omega), if_pos h2.symm]; omega
        · rw [if_pos h1.symm, if_neg (by omega)]; omega
      rw [this]; rfl
    · rw [updI_ne hj]
      unfold nb
      by_cases hj3 : j = 3
      · rw [if_pos hj3, if_pos hj3]
      · rw [if_neg hj3, if_neg hj3]
        rw [if_neg (by omega), if_neg (by omega)]
        congr 1; omega
  unfold nbS
  show sumN (nb (sMove A d c m)) (aN A) = _
  rw [sumN_congr (aN A) (fun j _ => e j), sumN_upd, if_pos hi]
  have : nb A i = m := by
    unfold nb iabs
    rw [if_neg h3]
    split <;> omega
  omega
theorem enter_W {J : SJ} {n t : Nat} (h : WJ J n t) (hj : jN J + 1 < 1000000) {d c a : Int} {m : Int} (hd : 0 ≤ d ∧ d < n) (hc : 0 ≤ c ∧ c < n) (ha : 0 ≤ a ∧ a < 268435456) (hm : 0 ≤ m ∧ m ≤ 2) (hb : m = 0 → 999 < a → d = 3 ∨ c = 3) : WJ (sEnterJ J d c a t m) n t := by
  refine ⟨hj, fun e h1 h2 => ?_⟩
  have h2 : e < jN J + 1 := h2
  have h1 : jN J + 1 - min (jN J + 1) 20 ≤ e := h1
  show 0 ≤ updI (jD J) (jN J) d e ∧ updI (jD J) (jN J) d e < n ∧ 0 ≤ updI (jC J) (jN J) c e ∧ updI (jC J) (jN J) c e < n ∧ 0 ≤ updI (jA J) (jN J) a e ∧ updI (jA J) (jN J) a e < 268435456 ∧ 0 ≤ updI (jH J) (jN J) t e ∧ updI (jH J) (jN J) t e ≤ t ∧ 0 ≤ updI (jM J) (jN J) m e ∧ updI (jM J) (jN J) m e ≤ 2 ∧ (updI (jM J) (jN J) m e = 0 → 999 < updI (jA J) (jN J) a e → updI (jD J) (jN J) d e = 3 ∨ updI (jC J) (jN J) c e = 3)
  by_cases e9 : e = jN J
  · subst e9
    rw [updI_eq, updI_eq, updI_eq, updI_eq, updI_eq]
    exact ⟨hd.1, hd.2, hc.1, hc.2, ha.1, ha.2, by omega, by omega, hm.1, hm.2, hb⟩
  · rw [updI_ne e9, updI_ne e9, updI_ne e9, updI_ne e9, updI_ne e9]
    exact h.2 e (by unfold jK; omega) (by omega)
theorem sumF_le {f g : Nat → Int} : ∀ n i, (∀ j, f j ≤ g j) → sumF f i n ≤ sumF g i n := by
  intro n
  induction n with
  | zero => intro i _; exact Int.le_refl _
  | succ n ih => intro i h; have := ih (i + 1) h; have := h i; rw [sumF, sumF]; omega
theorem enter_big (J : SJ) (d c a t m : Int) : bigE (sEnterJ J d c a t m) ≤ bigE J + (if m = 0 ∧ 999 < a then a else 0) := by
  have hk : jK J ≤ jN J := by unfold jK; omega
  have e0 : ∀ e, e ≠ jN J → eW (sEnterJ J d c a t m) e = eW J e := by
    intro e he
    show (if updI (jM J) (jN J) m e = 0 ∧ 999 < updI (jA J) (jN J) a e then updI (jA J) (jN J) a e else 0) = _
    rw [updI_ne he, updI_ne he]; rfl
  have e1 : eW (sEnterJ J d c a t m) (jN J) = if m = 0 ∧ 999 < a then a else 0 := by
    show (if updI (jM J) (jN J) m (jN J) = 0 ∧ 999 < updI (jA J) (jN J) a (jN J) then updI (jA J) (jN J) a (jN J) else 0) = _
    rw [updI_eq, updI_eq]
  unfold bigE
  show sumN (fun j => eW (sEnterJ J d c a t m) (jN J + 1 - min (jN J + 1) 20 + j)) (min (jN J + 1) 20) ≤ _
  by_cases h : jN J < 20
  · have k1 : jK J = jN J := by unfold jK; omega
    rw [show min (jN J + 1) 20 = jN J + 1 by omega, k1, sumN]
    rw [show jN J + 1 - (jN J + 1) + jN J = jN J by omega, e1]
    rw [sumN_congr (g := fun j => eW J (jN J - jN J + j)) (jN J) (fun j hj => by show eW _ _ = eW _ _; rw [e0 _ (by omega)]; congr 1; omega)]
    omega
  · have k1 : jK J = 20 := by unfold jK; omega
    rw [show min (jN J + 1) 20 = 19 + 1 by omega, k1, sumN]
    rw [show jN J + 1 - (19 + 1) + 19 = jN J by omega, e1]
    rw [sumN_congr (g := fun j => eW J (jN J - 20 + (1 + j))) 19 (fun j hj => by show eW _ _ = eW _ _; rw [e0 _ (by omega)]; congr 1; omega)]
    have e2 := sumF_N (fun j => eW J (jN J - 20 + j)) 19 1
    have e3 : sumF (fun j => eW J (jN J - 20 + j)) 1 19 = sumN (fun j => eW J (jN J - 20 + (1 + j))) 19 := by
      rw [← sumF_0]
      exact sumN_shift _ _ 1 19 (fun i => rfl)
    have e4 : sumN (fun j => eW J (jN J - 20 + j)) 1 = 0 + eW J (jN J - 20 + 0) := rfl
    have := eW_nn J (jN J - 20 + 0)
    have e5 : (1 + 19 : Nat) = 20 := rfl
    rw [e5] at e2
    omega
theorem mark_big {J : SJ} {e : Nat} (h1 : jN J - jK J ≤ e) (h2 : e < jN J) {m : Int} (hm : m ≠ 0) : bigE (sMark J e m) = bigE J - eW J e := by
  have hk : jK J ≤ jN J := by unfold jK; omega
  have e0 : ∀ x, eW (sMark J e m) x = if x = e then 0 else eW J x := by
    intro x
    show (if updI (jM J) e m x = 0 ∧ 999 < jA J x then jA J x else 0) = _
    by_cases h : x = e
    · subst h; rw [updI_eq, if_pos rfl, if_neg (fun c => hm c.1)]
    · rw [updI_ne h, if_neg h]; rfl
  unfold bigE
  show sumN (fun j => eW (sMark J e m) (jN J - jK J + j)) (jK J) = _
  rw [sumN_congr (g := updI (fun j => eW J (jN J - jK J + j)) (e - (jN J - jK J)) 0) (jK J) (fun j hj => by
    show eW _ _ = _
    rw [e0]
    by_cases h : j = e - (jN J - jK J)
    · subst h; rw [updI_eq, if_pos (by omega)]
    · rw [updI_ne h, if_neg (by omega)]), sumN_upd, if_pos (by omega)]
  show _ + (0 - eW J (jN J - jK J + (e - (jN J - jK J)))) = _
  rw [show jN J - jK J + (e - (jN J - jK J)) = e by omega]
  omega
theorem WJ.later {J : SJ} {n n' t t' : Nat} (h : WJ J n t) (hn : n ≤ n') (ht : t ≤ t') : WJ J n' t' := ⟨h.1, fun e h1 h2 => by
  obtain ⟨a1, a2, a3, a4, a5, a6, a7, a8, a9⟩ := h.2 e h1 h2
  exact ⟨a1, by omega, a3, by omega, a5, a6, a7, by omega, a9⟩⟩
theorem WP.more {P : SP} {n n' : Nat} (h : WP P n) (hn : n ≤ n') : WP P n' := ⟨h.1, fun x hx => by have := h.2 x hx; unfold WPe at this ⊢; omega⟩
theorem live_W {P : SP} {n : Nat} (h : WP P n) : WP (live (P.map tick)) n := by
  refine ⟨?_, fun x hx => ?_⟩
  · have := List.length_filter_le (fun x : SPe => decide (0 < x.2.2.2.2.1)) (P.map tick)
    rw [List.length_map] at this
    have := h.1
    unfold live
    omega
  · obtain ⟨h1, h2⟩ := List.mem_filter.mp hx
    obtain ⟨y, h3, rfl⟩ := List.mem_map.mp h1
    have h4 := of_decide_eq_true h2
    have := h.2 y h3
    unfold WPe at this ⊢
    unfold tick at h4 ⊢
    split
    · rename_i hc
      rw [if_pos hc] at h4
      simp only at h4 ⊢
      omega
    · rename_i hc
      rw [if_neg hc] at h4
      simp only at h4 ⊢
      omega
theorem pV_nn {P : SP} {n : Nat} (h : ∀ x ∈ P, WPe n x) : 0 ≤ pV P ∧ pV P ≤ 8991 * P.length := by
  induction P with
  | nil => exact ⟨Int.le_refl _, Int.le_refl _⟩
  | cons x r ih =>
    have := ih (fun y hy => h y (List.mem_cons_of_mem _ hy))
    have q := h x List.mem_cons_self
    unfold WPe at q
    have b0 : 0 ≤ x.2.2.2.2.1 * x.2.2.1 := Int.mul_nonneg (by omega) (by omega)
    have b1 : x.2.2.2.2.1 * x.2.2.1 ≤ 9 * 999 := Int.mul_le_mul (by omega) (by omega) (by omega) (by omega)
    rw [pV, List.length_cons]
    omega
def duV : SP → Int
  | [] => 0
  | x :: r => (if x.2.2.2.2.2 = 1 then x.2.2.1 else 0) + duV r
theorem live_V {n : Nat} : ∀ P : SP, (∀ x ∈ P, WPe n x ∧ 1 ≤ x.2.2.2.2.1) → pV (live (P.map tick)) + duV P = pV P := by
  intro P
  induction P with
  | nil => intro _; rfl
  | cons x r ih =>
    intro h
    have h1 := ih (fun y hy => h y (List.mem_cons_of_mem _ hy))
    have q := h x List.mem_cons_self
    unfold WPe at q
    have e3 : 0 ≤ (tick x).2.2.2.2.1 := by
      unfold tick
      split
      · simp only; omega
      · simp only; omega
    have e1 : pV (live ((x :: r).map tick)) = (tick x).2.2.2.2.1 * (tick x).2.2.1 + pV (live (r.map tick)) := by
      rw [List.map_cons]
      unfold live
      by_cases hc : 0 < (tick x).2.2.2.2.1
      · rw [List.filter_cons_of_pos (by simpa using hc), pV]
      · rw [List.filter_cons_of_neg (by simpa using hc)]
        rw [show (tick x).2.2.2.2.1 = 0 by omega, Int.zero_mul, Int.zero_add]
    have e4 : (tick x).2.2.2.2.1 * (tick x).2.2.1 + (if x.2.2.2.2.2 = 1 then x.2.2.1 else 0) = x.2.2.2.2.1 * x.2.2.1 := by
      unfold tick
      split
      · simp only
        rw [Int.sub_mul, Int.one_mul]
        omega
      · simp only
        omega
    rw [e1, duV, pV]
    omega
theorem due_W {n t : Nat} : ∀ (P : SP) (A : SA) (J : SJ), (∀ x ∈ P, WPe n x) → WB0 A → aN A = n → WJ J n t → jN J + P.length < 1000000 → WB0 (duF t (A, J) P).1 ∧ WJ (duF t (A, J) P).2 n t ∧ nbS (duF t (A, J) P).1 ≤ nbS A + 2 * duV P ∧ bigE (duF t (A, J) P).2 ≤ bigE J ∧ sumN (aD (duF t (A, J) P).1) n = sumN (aD A) n + duV P := by
  intro P
  induction P with
  | nil => intro A J _ h2 _ h3 _; exact ⟨h2, h3, by show nbS A ≤ nbS A + 2 * 0; omega, Int.le_refl _, by show sumN (aD A) n = sumN (aD A) n + 0; omega⟩
  | cons x r ih =>
    intro A J h1 h2 h3 h4 h5
    rw [List.length_cons] at h5
    have q := h1 x List.mem_cons_self
    unfold WPe at q
    rw [duF]
    unfold duE
    have hr : ∀ y ∈ r, WPe n y := fun y hy => h1 y (List.mem_cons_of_mem _ hy)
    by_cases hc : x.2.2.2.2.2 = 1
    · rw [if_pos hc]
      dsimp only
      have p1 := move_W h2 (d := x.1.toNat) (c := x.2.1.toNat) (by omega) (by omega) (m := x.2.2.1) (by omega)
      have p2 := enter_W h4 (by omega) (d := x.1) (c := x.2.1) (a := x.2.2.1) (m := 0) (by omega) (by omega) (by omega) (by omega) (by omega)
      obtain ⟨a1, a2, a3, a4, a5⟩ := ih (sMove A x.1.toNat x.2.1.toNat x.2.2.1) (sEnterJ J x.1 x.2.1 x.2.2.1 t 0) hr p1 h3 p2 (by show jN J + 1 + r.length < _; omega)
      have p3 := nbS_move (A := A) (d := x.1.toNat) (c := x.2.1.toNat) (by omega) (by omega) (m := x.2.2.1) (by omega)
      have p4 := enter_big J x.1 x.2.1 x.2.2.1 t 0
      have p5 := sum_move (A := A) (d := x.1.toNat) (c := x.2.1.toNat) (by omega) (m := x.2.2.1)
      rw [if_neg (by omega)] at p4
      have p5' : sumN (aD (sMove A x.1.toNat x.2.1.toNat x.2.2.1)) n = sumN (aD A) n + x.2.2.1 := by rw [← h3]; exact p5
      refine ⟨a1, a2, ?_, by omega, ?_⟩
      · rw [duV, if_pos hc]
        revert p3
        split <;> split <;> intro p3 <;> omega
      · rw [duV, if_pos hc]
        omega
    · rw [if_neg hc]
      obtain ⟨a1, a2, a3, a4, a5⟩ := ih A J hr h2 h3 h4 (by omega)
      rw [duV, if_neg hc]
      exact ⟨a1, a2, by omega, a4, by omega⟩
def psi (S : SG) : Int := nbS (gA S) + bigE (gJ S) + 2 * pV (gP S)
def sdp (S : SG) : Int := sumN (aD (gA S)) (aN (gA S)) + pV (gP S)
def WG (S : SG) : Prop := WB0 (gA S) ∧ WJ (gJ S) (aN (gA S)) (gH S) ∧ WP (gP S) (aN (gA S)) ∧ WL (gL S) ∧ WB (gB S) ∧ gH S < 1000000 ∧ gC S < 1000000 ∧ psi S < 268435456 ∧ sdp S < 2147483648
theorem WG.pv {S : SG} (h : WG S) : 0 ≤ pV (gP S) := (pV_nn (fun x hx => (h.2.2.1.2 x hx).1)).1
theorem WG.wa {S : SG} (h : WG S) : WA (gA S) := by
  have h1 := h.pv
  have h2 := bigE_nn (gJ S)
  have h3 := h.2.2.2.2.2.2.2.1
  have h4 := h.2.2.2.2.2.2.2.2
  unfold psi at h3
  unfold sdp at h4
  exact WA.of h.1 (by omega) (by omega)
def sHour (S : SG) : SG := ((duF (gH S + 1) (gA S, gJ S) (gP S)).1, (duF (gH S + 1) (gA S, gJ S) (gP S)).2, live ((gP S).map tick), gL S, gB S, gH S + 1, gC S)
def sHours : Nat → SG → SG
  | 0, S => S
  | k + 1, S => sHour (sHours k S)
def sHoursC : Nat → SG → Nat
  | 0, _ => 0
  | k + 1, S => sHoursC k S + duC (gP (sHours k S))
theorem hour_W {S : SG} (h : WG S) (h2 : jN (gJ S) + 6 < 1000000) (h3 : gH S + 1 < 1000000) : WG (sHour S) ∧ psi (sHour S) ≤ psi S ∧ sdp (sHour S) ≤ sdp S ∧ jN (gJ (sHour S)) ≤ jN (gJ S) + 6 := by
  have hpv := h.pv
  obtain ⟨a1, a2, a3, a4, a5, a6, a7, a8, a9⟩ := h
  have hl := a3.1
  obtain ⟨b1, b2, b3, b4, b5⟩ := due_W (t := gH S + 1) (gP S) (gA S) (gJ S) (fun x hx => (a3.2 x hx).1) a1 rfl (a2.later (Nat.le_refl _) (by omega)) (by omega)
  obtain ⟨n1, n2⟩ := duF_n (gH S + 1) (gP S) (gA S, gJ S)
  have n3 := duC_le (gP S)
  have v1 := live_V (gP S) a3.2
  have n1' : aN (gA (sHour S)) = aN (gA S) := n1
  have n2' : jN (gJ (sHour S)) = jN (gJ S) + duC (gP S) := n2
  have e1 : psi (sHour S) ≤ psi S := by
    show nbS (duF (gH S + 1) (gA S, gJ S) (gP S)).1 + bigE (duF (gH S + 1) (gA S, gJ S) (gP S)).2 + 2 * pV (live ((gP S).map tick)) ≤ nbS (gA S) + bigE (gJ S) + 2 * pV (gP S)
    omega
  have e2 : sdp (sHour S) ≤ sdp S := by
    show sumN (aD (duF (gH S + 1) (gA S, gJ S) (gP S)).1) (aN (duF (gH S + 1) (gA S, gJ S) (gP S)).1) + pV (live ((gP S).map tick)) ≤ sumN (aD (gA S)) (aN (gA S)) + pV (gP S)
    rw [n1]
    show sumN (aD (duF (gH S + 1) (gA S, gJ S) (gP S)).1) (aN (gA S)) + pV (live ((gP S).map tick)) ≤ sumN (aD (gA S)) (aN (gA S)) + pV (gP S)
    omega
  refine ⟨⟨b1, ?_, ?_, a4, a5, h3, a7, by omega, by omega⟩, e1, e2, by omega⟩
  · rw [n1']; exact b2
  · rw [n1']; exact live_W a3
theorem hours_W {S : SG} (h : WG S) : ∀ k : Nat, jN (gJ S) + 6 * k < 1000000 → gH S + k < 1000000 → WG (sHours k S) ∧ psi (sHours k S) ≤ psi S ∧ sdp (sHours k S) ≤ sdp S ∧ jN (gJ (sHours k S)) ≤ jN (gJ S) + 6 * k ∧ gH (sHours k S) = gH S + k := by
  intro k
  induction k with
  | zero => intro _ _; exact ⟨h, Int.le_refl _, Int.le_refl _, Nat.le_refl _, rfl⟩
  | succ k ih =>
    intro h2 h3
    obtain ⟨a1, a2, a5, a3, a4⟩ := ih (by omega) (by omega)
    obtain ⟨b1, b2, b4, b3⟩ := hour_W a1 (by omega) (by omega)
    refine ⟨b1, ?_, ?_, ?_, ?_⟩
    · show psi (sHour (sHours k S)) ≤ _; omega
    · show sdp (sHour (sHours k S)) ≤ _; omega
    · show jN (gJ (sHour (sHours k S))) ≤ _; omega
    · show gH (sHours k S) + 1 = _; omega
