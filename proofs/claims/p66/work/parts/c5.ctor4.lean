/-! ===== the constructor of the history ===== -/
def nHf (hr : Nat → Nat → Nat) (i : Nat) : Nat → Option Nat := fun k => if k < i then some (hr k 0) else none
def nHw (cA : Nat → ClassId) (hr : Nat → Nat → Nat) (rs : Nat → BooS) (i : Nat) : va_W := (List.range i).flatMap fun k => BooW cA (hr k) (rs k)
def nHu {α : Type} (f : Nat → α) (i : Nat) (v : α) : Nat → α := fun k => if k = i then v else f k
abbrev nHh (cA : Nat → ClassId) (b q1 : Nat) (hr : Nat → Nat → Nat) (i : Nat) : va_W := [(b, .inr (5, [.ref q1, .int 0, .int 0])), (q1, .inl (cA 4, 9, .inr (.inr (.inr (.inr (nHf hr i))))))]
theorem nHw_len (cA : Nat → ClassId) (hr : Nat → Nat → Nat) (rs : Nat → BooS) (i : Nat) : (nHw cA hr rs i).length = 25 * i := flat_len _ 25 (fun _ => rfl) i
theorem nHw_s (cA : Nat → ClassId) (hr : Nat → Nat → Nat) (rs : Nat → BooS) (i : Nat) (h : Nat → Nat) (b : BooS) : nHw cA hr rs i ++ BooW cA h b = nHw cA (nHu hr i h) (nHu rs i b) (i + 1) := by
  unfold nHw
  rw [List.range_succ, List.flatMap_append, List.flatMap_cons, List.flatMap_nil, List.append_nil]
  congr 1
  · have e : ∀ L : List Nat, (∀ k ∈ L, k < i) → (L.flatMap fun k => BooW cA (hr k) (rs k)) = L.flatMap fun k => BooW cA (nHu hr i h k) (nHu rs i b k) := by
      intro L
      induction L with
      | nil => intro _; rfl
      | cons a L ih =>
        intro hL
        have ha : a ≠ i := Nat.ne_of_lt (hL a (List.mem_cons_self ..))
        rw [List.flatMap_cons, List.flatMap_cons, ih (fun k hk => hL k (List.mem_cons_of_mem _ hk))]
        unfold nHu
        rw [if_neg ha, if_neg ha]
    exact e _ (fun k hk => List.mem_range.mp hk)
  · unfold nHu
    rw [if_pos rfl, if_pos rfl]
theorem nHf_s (hr : Nat → Nat → Nat) (i : Nat) (h : Nat → Nat) : va_up (nHf hr i) i (some (h 0)) = nHf (nHu hr i h) (i + 1) := by
  funext k
  unfold va_up nHf nHu
  by_cases hk : k = i
  · subst hk
    rw [if_pos rfl, if_pos (by omega), if_pos rfl]
  · rw [if_neg hk, if_neg hk]
    by_cases h2 : k < i
    · rw [if_pos h2, if_pos (by omega)]
    · rw [if_neg h2, if_neg (by omega)]
theorem nHf_0 (hr : Nat → Nat → Nat) : nHf hr 0 = fun _ => none := funext fun k => if_neg (Nat.not_lt_zero k)
theorem arrV_cong (c : ClassId) {N : Nat} {f g : Nat → Value} (h : ∀ j, j < N → f j = g j) : arrV c N f = arrV c N g := by
  unfold arrV
  congr 1
  congr 1
  funext j
  exact h j.val j.isLt
theorem nHv (cA : Nat → ClassId) (b q1 : Nat) (hr : Nat → Nat → Nat) (rs : Nat → BooS) (i : Nat) (x : va_W) : (nHh cA b q1 hr i ++ nHw cA hr rs i ++ x)[2 + 25 * i]? = x[0]? := by
  have hn : (nHh cA b q1 hr i ++ nHw cA hr rs i).length = 2 + 25 * i := by rw [List.length_append, nHw_len]; rfl
  rw [List.getElem?_append_right (by rw [hn]; exact Nat.le_refl _), hn, Nat.sub_self]
theorem nI9_all : (List.range 9).all (fun i => decide (0 ≤ (iI (i : Int)).toInt) && decide ((iI (i : Int)).toInt < (9 : Nat)) && decide ((iI (i : Int)).toNatClampNeg = i) && decide (¬ (9 : Int32) ≤ iI (i : Int))) = true := by decide +kernel
theorem nI9 {i : Nat} (hi : i < 9) : vp_in (iI (i : Int)) 9 ∧ (iI (i : Int)).toNatClampNeg = i ∧ ¬ (9 : Int32) ≤ iI (i : Int) := by
  have h := List.all_eq_true.mp nI9_all i (List.mem_range.mpr hi)
  simp only [Bool.and_eq_true, decide_eq_true_eq] at h
  exact ⟨vp_in_iff.mpr h.1.1, h.1.2, h.2⟩
set_option maxRecDepth 100000 in
set_option maxHeartbeats 4000000 in
theorem nX5_init (l : Launch) (D : va_G) (cA : Nat → ClassId) (ad ae : Nat → Nat) (b sz : Nat) : nM l yX5_init cX5_init 2 ({ frames := 6, cells := 226, slots := 2277, locals := 140 }) D cA ad (b, .inr (5, [.null, .int 0, .int 0])) sz (fun u : (Nat → Nat) × (Nat → Nat → Nat) × HisS × (Nat → BooS) => u.1 0 = b ∧ u.2.2.1 = (0, 0)) (fun u => HisW cA u.2.1 u.1 u.2.2.1 ++ RowW cA u.2.1 u.2.2.2) 226 2277 := by
  generalize erm : ({ frames := 6, cells := 226, slots := 2277, locals := 140 } : Room) = rm
  refine nMet (by decide) (Nat.le_of_ble_eq_true rfl) ?_
  intro p e s m below meth c hx hb hr hlocks hml hts hown hin hK hP A eA hD hS hA hsz hN hE ls hl
  have hl : lv_has ls 2 [(0, .ref b)] := hl
  clear eA
  refine lv_aload_n hx hb dX5_init_0 rfl (lv_at hl 0 rfl) ?_
  refine W.objInit hx hb hown (hts _ qmo_X5) (hts _ qio) (hts _ qoo) rfl (by rw [hml]; exact hl.1) rfl dX5_init_1 (by rw [← erm]; exact Nat.le_of_ble_eq_true rfl) (by rw [← erm]; exact Nat.le_of_ble_eq_true rfl) ?_
  refine lv_aload_n hx hb dX5_init_4 rfl (lv_at hl 0 rfl) ?_
  refine lv_bipush (v := 9) hx hb dX5_init_5 (by decide) ?_
  refine nNewq hx hb hown (hts _ qcs_X5_11) hE.2.2.1 4 (c0 := cA 4) rfl hK hP hD hS hA (N' := 9) (by decide) (by decide) (by decide) (by rw [← erm]; exact Nat.le_of_ble_eq_true rfl) (by rw [← erm]; exact Nat.le_of_ble_eq_true rfl) dX5_init_7 (fun q1 H hP hD hS => ?_)
  have hP : va_P D vwCl ([(b, .inr (5, [.null, .int 0, .int 0])), (q1, .inl (cA 4, 9, .inr (.inr (.inr (.inr (fun _ => none))))))]) H := hP
  have hD : va_D A ([(b, .inr (5, [.null, .int 0, .int 0])), (q1, .inl (cA 4, 9, .inr (.inr (.inr (.inr (fun _ => none))))))]) := hD
  refine va_putF (D := D) (ci := 5) (v := .ref q1) (ty := .array (.object "TheatreLedger$Books")) (C := RX5) (T := TX5) (N := 3) hx hb hts iX5 tyX5 tyX5_ok nmX5 hown hK hP hD hS 0 rfl rfl 0 (by decide) (hts _ qfl_X5_13) (fun _ h9 => h9) rfl hin rfl (by decide +kernel) rfl rfl (Nat.le_of_ble_eq_true rfl) dX5_init_10 (fun H locs hP hD hS => ?_)
  have hr0 : (nHf (fun _ _ => 0) 0) = fun _ => none := nHf_0 _
  have hP : va_P D vwCl (nHh cA b q1 (fun _ _ => 0) 0 ++ nHw cA (fun _ _ => 0) (fun _ => default) 0) H := by
    unfold nHh
    rw [hr0]
    exact hP
  have hD : va_D A (nHh cA b q1 (fun _ _ => 0) 0 ++ nHw cA (fun _ _ => 0) (fun _ => default) 0) := by
    unfold nHh
    rw [hr0]
    exact hD
  refine lv_iconst (v := 0) hx hb dX5_init_13 (by decide) ?_
  refine lv_istore_n (lv' := [(1, .int 0), (0, .ref b)]) hx hb dX5_init_14 rfl hl (by decide) rfl (fun ls hl => ?_)
  have hL : ∀ (n i : Nat), i + n = 9 → ∀ (ce sl : Nat), ce = 1 + 25 * i → sl = 9 + 252 * i → ∀ (hr9 : Nat → Nat → Nat) (rs : Nat → BooS) (H : Heap) (locs : List Loc), va_P D vwCl (nHh cA b q1 hr9 i ++ nHw cA hr9 rs i) H → va_D A (nHh cA b q1 hr9 i ++ nHw cA hr9 rs i) → va_S A s.heap H locs → ∀ ls : Array Slot, lv_has ls 2 [(1, .int (iI (i : Int))), (0, .ref b)] → W p l e rm s m ([.ref b] : List Value).toArray below meth c H locs ce sl (nEnd below D cA A (fun u : (Nat → Nat) × (Nat → Nat → Nat) × HisS × (Nat → BooS) => u.1 0 = b ∧ u.2.2.1 = (0, 0)) (fun u => HisW cA u.2.1 u.1 u.2.2.1 ++ RowW cA u.2.1 u.2.2.2) b s 226 2277) (F0 m 15 ls []) := by
    clear hP hD hS hl
    intro n
    induction n with
    | zero =>
      intro i hi ce sl hce hsl hr9 rs H locs hP hD hS ls hl
      obtain rfl : i = 9 := by omega
      obtain rfl : ce = 226 := by omega
      obtain rfl : sl = 2277 := by omega
      refine lv_iload_n hx hb dX5_init_15 rfl (lv_at hl 0 rfl) ?_
      refine lv_bipush (v := 9) hx hb dX5_init_16 (by decide) ?_
      refine lv_icmp_ge (tgt := 40) hx hb dX5_init_18 (by decide) (fun _ => ?_) (fun c9 => absurd (by decide) c9)
      have hat : va_at D vwCl (q1, (.inl (cA 4, 9, .inr (.inr (.inr (.inr (fun i => some (hr9 i 0)))))) : va_E)) H := by
        have h1 := hP 1 _ rfl
        have e9 : vp_cell (cA 4) (9, .inr (.inr (.inr (.inr (nHf hr9 9))))) = vp_cell (cA 4) (9, .inr (.inr (.inr (.inr (fun i => some (hr9 i 0)))))) := by
          rw [vp_cell_q, vp_cell_q]
          refine arrV_cong _ fun j hj => ?_
          rw [show nHf hr9 9 j = some (hr9 j 0) from if_pos hj]
        show H[q1]? = some _
        rw [← e9]
        exact h1
      have hP2 := hP.set hD (p := 1) rfl hat (fun _ _ => rfl)
      have hD2 := hD.set (p := 1) (e := .inl (cA 4, 9, .inr (.inr (.inr (.inr (fun i => some (hr9 i 0))))))) (show (nHh cA b q1 hr9 9 ++ nHw cA hr9 rs 9)[1]? = some (q1, _) from rfl)
      exact nRet (F := fun u : (Nat → Nat) × (Nat → Nat → Nat) × HisS × (Nat → BooS) => HisW cA u.2.1 u.1 u.2.2.1 ++ RowW cA u.2.1 u.2.2.2) (px := fun u => u.1 0 = b ∧ u.2.2.1 = (0, 0)) (hAt [b, q1], hr9, (0, 0), rs) hx hb hr hlocks ⟨rfl, rfl⟩ hP2 hK hD2 hS dX5_init_40
    | succ n ih =>
      intro i hi ce sl hce hsl hr9 rs H locs hP hD hS ls hl
      have hi9 : i < 9 := by omega
      have hx9 := nI9 hi9
      refine lv_iload_n hx hb dX5_init_15 rfl (lv_at hl 0 rfl) ?_
      refine lv_bipush (v := 9) hx hb dX5_init_16 (by decide) ?_
      refine lv_icmp_ge (tgt := 40) hx hb dX5_init_18 (by decide) (fun c9 => absurd c9 hx9.2.2) (fun _ => ?_)
      refine lv_aload_n hx hb dX5_init_21 rfl (lv_at hl 1 rfl) ?_
      refine va_get (D := D) (ci := 5) (v := .ref q1) (C := RX5) (T := TX5) (N := 3) hx hb hts iX5 hown hK hP 0 rfl rfl 0 (by decide) (hts _ qfl_X5_13) (fun _ h9 => h9) rfl dX5_init_22 ?_
      refine lv_iload_n hx hb dX5_init_25 rfl (lv_at hl 0 rfl) ?_
      refine va_new (ci := 4) (fs := [.null, .null, .null, .null, .null, .int 0, .int 0]) (C := RX3) (T := TX3) (N := 7) hx hb hts iX3 tyX3 tyX3_ok hown (hts _ qcs_X5_11) (hts _ qit_X3) (hts _ qini_X3) hK hP hD hS hA rfl (by decide) (by rw [← erm]; show ce + 1 ≤ 226; omega) (by rw [← erm]; show sl + 7 ≤ 2277; omega) dX5_init_26 (fun q2 H hP hD hS => ?_)
      refine lv_dup hx hb dX5_init_29 rfl ?_
      refine nCall (a := (nHh cA b q1 hr9 i ++ nHw cA hr9 rs i : va_W)) (nRunIN (rest := [.ref q2, .int (iI (i : Int)), .ref q1]) ⟨hx, hb, hml, hown, hts⟩ (nX3_init l D cA ad ae q2 _) qco_X3_init qmn_X5_17 qin_X3_init qini_X3 (by decide +kernel) rfl (by rw [← erm]; rfl) hN hE hS hA hK hP hD rfl hl.1 rfl (lv_room (Nat.le_of_ble_eq_true rfl)) dX5_init_30 ⟨by rw [← erm]; show ce + 1 + 24 ≤ 226; omega, by rw [← erm]; show sl + 7 + 245 ≤ 2277; omega⟩) hP hD hS hA (fun u pu H locs hP hD hS => ?_)
      rw [← pu.1]
      refine va_astq hx hb hK hP hD hS 1 4 (2 + 25 * i) 4 (r := (RX3, TX3, 7)) rfl rfl (by rw [nHv]; rfl) rfl hx9.1 dX5_init_33 (fun H locs hP hD hS => ?_)
      rw [hx9.2.1] at hP hD
      have hP : va_P D vwCl (nHh cA b q1 (nHu hr9 i u.1) (i + 1) ++ nHw cA (nHu hr9 i u.1) (nHu rs i u.2) (i + 1)) H := by
        rw [← nHw_s]
        unfold nHh
        rw [← nHf_s]
        exact hP
      have hD : va_D A (nHh cA b q1 (nHu hr9 i u.1) (i + 1) ++ nHw cA (nHu hr9 i u.1) (nHu rs i u.2) (i + 1)) := by
        rw [← nHw_s]
        unfold nHh
        rw [← nHf_s]
        exact hD
      refine lv_iinc (v := iI ((i + 1 : Nat) : Int)) (lv' := [(1, .int (iI ((i + 1 : Nat) : Int))), (0, .ref b)]) hx hb dX5_init_34 hl (k := 0) rfl (nInc i) (by decide) rfl (fun ls hl => ?_)
      refine lv_goto (tgt := 15) hx hb dX5_init_37 (by decide) ?_
      exact ih (i + 1) (by omega) _ _ (by omega) (by omega) _ _ _ _ hP hD hS _ hl
  exact hL 9 0 rfl _ _ rfl rfl _ _ _ _ hP hD hS _ hl
