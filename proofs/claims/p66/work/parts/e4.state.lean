/-! ===== the law's hash of an object, as a function of the books ===== -/
def stP (S : SG) : Int32 := 31 * (31 * (31 * iI (gH S : Int) + iI (gC S : Int)) + iI (lSum (gL S))) + iI ((gL S).length : Int)
def stA1 (S : SG) (k : Nat) (v : Int32) : Int32 := 31 * (31 * (31 * (31 * v + iI (aK (gA S) k)) + iI (resR (rParent S (k : Int)))) + iI (aD (gA S) k)) + iI (aC (gA S) k)
def stA (S : SG) : Nat → Nat → Int32 → Int32
  | 0, _, v => v
  | j + 1, k, v => stA S j (k + 1) (stA1 S k v)
/-- the number of the k-th kept entry -/
def enN (S : SG) (k : Nat) : Nat := jN (gJ S) - jK (gJ S) + k
def stE1 (S : SG) (k : Nat) (v : Int32) : Int32 := 31 * (31 * (31 * (31 * v + iI (enN S k : Int)) + iI (jD (gJ S) (enN S k))) + iI (jC (gJ S) (enN S k))) + iI (jA (gJ S) (enN S k))
def stE2 (S : SG) (k : Nat) (v : Int32) : Int32 := 31 * (31 * v + iI (jH (gJ S) (enN S k))) + (if jM (gJ S) (enN S k) = 1 then 1 else 0)
def stE (S : SG) : Nat → Nat → Int32 → Int32
  | 0, _, v => v
  | j + 1, k, v => stE S j (k + 1) (stE2 S k (stE1 S k v))
def stQ1 (S : SG) (k : Nat) (v : Int32) : Int32 := 31 * (31 * v + iI ((gP S)[k]?.getD (0, 0, 0, 0, 0, 0)).2.2.2.2.2) + iI ((gP S)[k]?.getD (0, 0, 0, 0, 0, 0)).2.2.2.2.1
def stQ (S : SG) : Nat → Nat → Int32 → Int32
  | 0, _, v => v
  | j + 1, k, v => stQ S j (k + 1) (stQ1 S k v)
def stC (S : SG) : Nat → Nat → Int32 → Int32
  | 0, _, v => v
  | j + 1, k, v => stC S j (k + 1) (31 * v + iI (resR (rCost S (k : Int))))
def stB1 (S : SG) (k : Nat) (v : Int32) : Int32 := 31 * (31 * v + iI ((gB S).1[k]?.getD (0, 0)).1) + iI (rOpenA S ((gB S).1[k]?.getD (0, 0)).1).2
def stB (S : SG) : Nat → Nat → Int32 → Int32
  | 0, _, v => v
  | j + 1, k, v => stB S j (k + 1) (stB1 S k v)
def stV (S : SG) : Int32 := stB S (gB S).1.length 0 (stC S 20 1 (stQ S (gP S).length 0 (stE S (jK (gJ S)) 0 (stA S (aN (gA S)) 0 (stP S)))))
theorem plc_mem {z : Int} {L : List (Int × Int)} {k : Nat} {x : Int × Int} (h : L[k]? = some x) (hz : x.1 = z) : plc z L ≠ none := by
  induction L generalizing k with
  | nil => exact nil_at h
  | cons y L ih =>
    rw [plc]
    split
    · exact fun h => nomatch h
    · rename_i hne
      cases k with
      | zero =>
        have h : y = x := Option.some.inj h
        rw [h] at hne
        exact absurd hz hne
      | succ k =>
        have h : L[k]? = some x := h
        have := ih h
        cases hp : plc z L with
        | none => exact absurd hp this
        | some i => exact fun h => nomatch h
theorem rOpenA_0 {S : SG} {k : Nat} {x : Int × Int} (h : (gB S).1[k]? = some x) : (rOpenA S x.1).1 = 0 := by
  unfold rOpenA
  cases hp : plc x.1 (gB S).1 with
  | none => exact absurd hp (plc_mem h rfl)
  | some i => rfl
set_option maxRecDepth 100000 in
set_option maxHeartbeats 4000000 in
theorem l_state (l : Launch) (hl9 : l.stackTraces = false) (D : va_G) (cA : Nat → ClassId) (ad an tt : Nat → Nat) (hr : Nat → Nat → Nat) (h0 : Nat → Nat) (sz n : Nat) (t : ThlS) (r : Nat → BooS) (Wo : SO) (hV : V n t r Wo) : lM l yL_state (.code yL_state cL_state 4 (some .int)) ({ frames := 10, cells := 250, slots := 1500, locals := 230 }) D cA ad an tt (fun _ => True) (TR cA ad hr h0 t r) sz [.ref (h0 0)] (fun _ => some (.int (stV (oS Wo)))) (fun u : ThlS × (Nat → BooS) => V n u.1 u.2 Wo) (fun u => TR cA ad hr h0 u.1 u.2) 250 1500 := by
  generalize erm : ({ frames := 10, cells := 250, slots := 1500, locals := 230 } : Room) = rm
  refine lMet (by decide) rfl (Nat.le_of_ble_eq_true rfl) ?_
  intro p e s m below meth c A eA B hP hD hS hsz _ ls hl
  have hl : lv_has ls 4 [(0, .ref (h0 0))] := hl
  have hx := B.1.1
  have hb := B.1.2.1
  have hP := ocP hP
  have hD := ocPD hD
  have w := hV.w
  have wA := w.wa
  have nA := w.1.2.1
  have nJ := w.2.1.1
  have nK := jK_le (gJ (oS Wo))
  have nK2 : jK (gJ (oS Wo)) ≤ jN (gJ (oS Wo)) := by unfold jK; omega
  have nP := w.fr.2.1
  have nB := w.fr.2.2.2
  have L239 : ∀ (j k : Nat), k + j = (gB (oS Wo)).1.length → ∀ (v : Int32), stB (oS Wo) j k v = stV (oS Wo) → ∀ (cz : Nat), cz + 3 * j + 0 ≤ 250 → ∀ (t : ThlS) (r : Nat → BooS), V n t r Wo → ∀ (H : Heap) (locs : List Loc), va_P D vwCl ([] ++ (TR cA ad hr h0 t r ++ [])) H → va_D A ([] ++ (TR cA ad hr h0 t r ++ [])) → va_S A s.heap H locs → ∀ ls : Array Slot, lv_has ls 4 [(2, .int (iI (k : Int))), (1, .int v), (0, .ref (h0 0))] → W p l e rm s m ([.ref (h0 0)] : List Value).toArray below meth c H locs cz (6 * cz) (MQ below (lQ D cA A (fun _ => some (.int (stV (oS Wo)))) (fun u : ThlS × (Nat → BooS) => V n u.1 u.2 Wo) (fun u => TR cA ad hr h0 u.1 u.2)) ([.ref (h0 0)] : List Value).toArray s 250 1500 A) (F0 m 239 ls []) := by
    clear hP hD hS hl
    intro j
    induction j with
    | zero =>
      intro k hk v hv cz hcz t r hV H locs hP hD hS ls hl
      refine lv_iload_n hx hb dL_state_239 rfl (lv_at hl 0 rfl) ?_
      refine lv_aload_n hx hb dL_state_240 rfl (lv_at hl 2 rfl) ?_
      have e0 := r_billCount (N := 2000) hV.R w
      refine ocTz (t9 := t) B rfl hP hD hS (kX12_billCount l D cA ad hr h0 _ 2000  t (iI ((gB (oS Wo)).1.length : Int)) e0) qco_X12_billCount qml_L_172 qin_X12_billCount qse_X12_billCount qini_X12 (show xCd yX12_billCount 0 = true by decide +kernel) (by rw [← erm]; rfl) hl.1 rfl (lv_room (Nat.le_of_ble_eq_true rfl)) dL_state_241 ⟨by rw [← erm]; show cz ≤ 250; omega, by rw [← erm]; show 6 * cz ≤ 1500; omega⟩ (fun H locs hP hD hS => ?_)
      refine lv_icmp_ge (tgt := 277) hx hb dL_state_244 (by decide) (fun _ => ?_) (fun cc => absurd (by rw [i_le (by omega) (by omega) (by omega) (by omega)]; omega) cc)
      have hv : v = stV (oS Wo) := hv
      subst hv
      refine lv_iload_n hx hb dL_state_277 rfl (lv_at hl 1 rfl) ?_
      refine W.widen (k := 250) (n := 1500) (by omega) (by omega) ?_
      exact lIret (t, r) rfl hV hx hb B.2.1 B.2.2.1 (ocQ hP) B.2.2.2.1 (ocQD hD) hS dL_state_278
    | succ j ih =>
      intro k hk v hv cz hcz t r hV H locs hP hD hS ls hl
      refine lv_iload_n hx hb dL_state_239 rfl (lv_at hl 0 rfl) ?_
      refine lv_aload_n hx hb dL_state_240 rfl (lv_at hl 2 rfl) ?_
      have e0 := r_billCount (N := 2000) hV.R w
      refine ocTz (t9 := t) B rfl hP hD hS (kX12_billCount l D cA ad hr h0 _ 2000  t (iI ((gB (oS Wo)).1.length : Int)) e0) qco_X12_billCount qml_L_172 qin_X12_billCount qse_X12_billCount qini_X12 (show xCd yX12_billCount 0 = true by decide +kernel) (by rw [← erm]; rfl) hl.1 rfl (lv_room (Nat.le_of_ble_eq_true rfl)) dL_state_241 ⟨by rw [← erm]; show cz ≤ 250; omega, by rw [← erm]; show 6 * cz ≤ 1500; omega⟩ (fun H locs hP hD hS => ?_)
      refine lv_icmp_ge (tgt := 277) hx hb dL_state_244 (by decide) (fun cc => absurd cc (by rw [i_le (by omega) (by omega) (by omega) (by omega)]; omega)) (fun _ => ?_)
      obtain ⟨x, hx9⟩ : ∃ x, (gB (oS Wo)).1[k]? = some x := ⟨_, List.getElem?_eq_getElem (by omega)⟩
      have e1 := r_billAt (N := 2000) hV.R w (z := (k : Int)) (by omega)
      rw [if_pos (by omega), Int.toNat_natCast, hx9] at e1
      have e1 : fX12_billAt 2000 (iI (k : Int)) t = some (0, iI x.1) := e1
      have hb9 := w.2.2.2.2.1.2.2 x (List.mem_of_getElem? hx9)
      have hb8 := w.2.2.2.2.1.2.1
      have e2 := V_openAmount hV (iI x.1)
      rw [i_int (by omega) (by omega), rOpenA_0 hx9] at e2
      refine lv_bipush (v := 31) hx hb dL_state_247 (by decide) ?_
      refine lv_bipush (v := 31) hx hb dL_state_249 (by decide) ?_
      refine lv_iload_n hx hb dL_state_251 rfl (lv_at hl 1 rfl) ?_
      refine lv_imul hx hb dL_state_252 ?_
      refine lv_aload_n hx hb dL_state_253 rfl (lv_at hl 2 rfl) ?_
      refine lv_iload_n hx hb dL_state_254 rfl (lv_at hl 0 rfl) ?_
      refine ocT (t9 := t) (mc := 1) (ms := 6) B rfl hP hD hS (kX12_billAt l hl9 D cA ad hr h0 _ 2000 (iI (k : Int)) t (0, iI x.1) e1) qco_X12_billAt qml_L_175 qin_X12_billAt qse_X12_billAt qini_X12 (show xCd yX12_billAt 1 = true by decide +kernel) (by rw [← erm]; rfl) hl.1 rfl (lv_room (Nat.le_of_ble_eq_true rfl)) dL_state_255 ⟨by rw [← erm]; show cz + 1 ≤ 250; omega, by rw [← erm]; show 6 * cz + 6 ≤ 1500; omega⟩ (fun H locs hP hD hS => ?_)
      refine lv_iadd hx hb dL_state_258 ?_
      refine lv_imul hx hb dL_state_259 ?_
      refine lv_aload_n hx hb dL_state_260 rfl (lv_at hl 2 rfl) ?_
      refine lv_aload_n hx hb dL_state_261 rfl (lv_at hl 2 rfl) ?_
      refine lv_iload_n hx hb dL_state_262 rfl (lv_at hl 0 rfl) ?_
      refine ocT (t9 := t) (mc := 1) (ms := 6) B rfl hP hD hS (kX12_billAt l hl9 D cA ad hr h0 _ 2000 (iI (k : Int)) t (0, iI x.1) e1) qco_X12_billAt qml_L_175 qin_X12_billAt qse_X12_billAt qini_X12 (show xCd yX12_billAt 1 = true by decide +kernel) (by rw [← erm]; rfl) hl.1 rfl (lv_room (Nat.le_of_ble_eq_true rfl)) dL_state_263 ⟨by rw [← erm]; show cz + 1 + 1 ≤ 250; omega, by rw [← erm]; show 6 * cz + 6 + 6 ≤ 1500; omega⟩ (fun H locs hP hD hS => ?_)
      refine ocT (t9 := t) (mc := 1) (ms := 6) B rfl hP hD hS (kX12_openAmount l hl9 D cA ad hr h0 _ 2000 (iI x.1) t (0, iI (rOpenA (oS Wo) x.1).2) e2) qco_X12_openAmount qml_L_116 qin_X12_openAmount qse_X12_openAmount qini_X12 (show xCd yX12_openAmount 1 = true by decide +kernel) (by rw [← erm]; rfl) hl.1 rfl (lv_room (Nat.le_of_ble_eq_true rfl)) dL_state_266 ⟨by rw [← erm]; show cz + 1 + 1 + 1 ≤ 250; omega, by rw [← erm]; show 6 * cz + 6 + 6 + 6 ≤ 1500; omega⟩ (fun H locs hP hD hS => ?_)
      refine lv_iadd hx hb dL_state_269 ?_
      have eb : stB1 (oS Wo) k v = 31 * (31 * v + iI x.1) + iI (rOpenA (oS Wo) x.1).2 := by unfold stB1; rw [hx9]; rfl
      rw [← eb]
      refine lv_istore_n (lv' := [(1, .int (stB1 (oS Wo) k v)), (2, .int (iI (k : Int))), (0, .ref (h0 0))]) hx hb dL_state_270 rfl hl (by decide) rfl (fun ls hl => ?_)
      refine lv_iinc (v := iI ((k + 1 : Nat) : Int)) (lv' := [(2, .int (iI ((k + 1 : Nat) : Int))), (1, .int (stB1 (oS Wo) k v)), (0, .ref (h0 0))]) hx hb dL_state_271 hl (k := 1) rfl (by show iI (k : Int) + iI 1 = _; rw [i_add]; rfl) (by decide) rfl (fun ls hl => ?_)
      refine lv_goto (tgt := 239) hx hb dL_state_274 (by decide) ?_
      have h6 : 6 * cz + 6 + 6 + 6 = 6 * (cz + 1 + 1 + 1) := by omega
      rw [h6]
      exact ih (k + 1) (by omega) (stB1 (oS Wo) k v) hv (cz + 1 + 1 + 1) (by omega) t r hV H locs hP hD hS ls (lv_sub hl [0, 1, 2] rfl)
  have L211 : ∀ (j k : Nat), k + j = 21 → ∀ (v : Int32), stB (oS Wo) (gB (oS Wo)).1.length 0 (stC (oS Wo) j k v) = stV (oS Wo) → ∀ (cz : Nat), cz + 1 * j + 30 ≤ 250 → ∀ (t : ThlS) (r : Nat → BooS), V n t r Wo → ∀ (H : Heap) (locs : List Loc), va_P D vwCl ([] ++ (TR cA ad hr h0 t r ++ [])) H → va_D A ([] ++ (TR cA ad hr h0 t r ++ [])) → va_S A s.heap H locs → ∀ ls : Array Slot, lv_has ls 4 [(2, .int (iI (k : Int))), (1, .int v), (0, .ref (h0 0))] → W p l e rm s m ([.ref (h0 0)] : List Value).toArray below meth c H locs cz (6 * cz) (MQ below (lQ D cA A (fun _ => some (.int (stV (oS Wo)))) (fun u : ThlS × (Nat → BooS) => V n u.1 u.2 Wo) (fun u => TR cA ad hr h0 u.1 u.2)) ([.ref (h0 0)] : List Value).toArray s 250 1500 A) (F0 m 211 ls []) := by
    clear hP hD hS hl
    intro j
    induction j with
    | zero =>
      intro k hk v hv cz hcz t r hV H locs hP hD hS ls hl
      refine lv_iload_n hx hb dL_state_211 rfl (lv_at hl 0 rfl) ?_
      refine lv_bipush (v := 21) hx hb dL_state_212 (by decide) ?_
      refine lv_icmp_ge (tgt := 237) hx hb dL_state_214 (by decide) (fun _ => ?_) (fun cc => absurd (by rw [i_lit, i_le (by omega) (by omega) (by omega) (by omega)]; omega) cc)
      refine lv_iconst (v := 0) hx hb dL_state_237 (by decide) ?_
      have hv : stB (oS Wo) (gB (oS Wo)).1.length 0 v = stV (oS Wo) := hv
      refine lv_istore_n (lv' := [(2, .int (iI ((0 : Nat) : Int))), (1, .int v), (0, .ref (h0 0))]) hx hb dL_state_238 rfl hl (by decide) rfl (fun ls hl => ?_)
      exact L239 (gB (oS Wo)).1.length 0 (by omega) v hv cz (by omega) t r hV H locs hP hD hS ls (lv_sub hl [0, 1, 2] rfl)
    | succ j ih =>
      intro k hk v hv cz hcz t r hV H locs hP hD hS ls hl
      refine lv_iload_n hx hb dL_state_211 rfl (lv_at hl 0 rfl) ?_
      refine lv_bipush (v := 21) hx hb dL_state_212 (by decide) ?_
      refine lv_icmp_ge (tgt := 237) hx hb dL_state_214 (by decide) (fun cc => absurd cc (by rw [i_lit, i_le (by omega) (by omega) (by omega) (by omega)]; omega)) (fun _ => ?_)
      refine lv_bipush (v := 31) hx hb dL_state_217 (by decide) ?_
      refine lv_iload_n hx hb dL_state_219 rfl (lv_at hl 1 rfl) ?_
      refine lv_imul hx hb dL_state_220 ?_
      refine lv_aload_n hx hb dL_state_221 rfl (lv_at hl 2 rfl) ?_
      refine lv_bipush (v := 13) hx hb dL_state_222 (by decide) ?_
      refine lv_iload_n hx hb dL_state_224 rfl (lv_at hl 0 rfl) ?_
      refine lv_iconst (v := 0) hx hb dL_state_225 (by decide) ?_
      refine ocLW (F := fun u => u) (mc := 1) (ms := 6) B rfl hP hD hS (l_act13 l hl9 D cA ad an tt hr h0 _ n (iI (k : Int)) 0 t r Wo hV) qcw_L_act qml_L_33 qst_L_act qini_L (show xCd yL_act 4 = true by decide +kernel) (by rw [← erm]; rfl) hl.1 rfl (lv_room (Nat.le_of_ble_eq_true rfl)) dL_state_226 ⟨by rw [← erm]; show cz + 1 ≤ 250; omega, by rw [← erm]; show 6 * cz + 6 ≤ 1500; omega⟩ (fun u hV H locs hP hD hS => ?_)
      refine lv_iadd hx hb dL_state_229 ?_
      rw [i_int (by omega) (by omega)]
      refine lv_istore_n (lv' := [(1, .int (31 * v + iI (resR (rCost (oS Wo) (k : Int))))), (2, .int (iI (k : Int))), (0, .ref (h0 0))]) hx hb dL_state_230 rfl hl (by decide) rfl (fun ls hl => ?_)
      refine lv_iinc (v := iI ((k + 1 : Nat) : Int)) (lv' := [(2, .int (iI ((k + 1 : Nat) : Int))), (1, .int (31 * v + iI (resR (rCost (oS Wo) (k : Int))))), (0, .ref (h0 0))]) hx hb dL_state_231 hl (k := 1) rfl (by show iI (k : Int) + iI 1 = _; rw [i_add]; rfl) (by decide) rfl (fun ls hl => ?_)
      refine lv_goto (tgt := 211) hx hb dL_state_234 (by decide) ?_
      have h6 : 6 * cz + 6 = 6 * (cz + 1) := by omega
      rw [h6]
      exact ih (k + 1) (by omega) (31 * v + iI (resR (rCost (oS Wo) (k : Int)))) hv (cz + 1) (by omega) u.1 u.2 hV H locs hP hD hS ls (lv_sub hl [0, 1, 2] rfl)
  have L175 : ∀ (j k : Nat), k + j = (gP (oS Wo)).length → ∀ (v : Int32), stB (oS Wo) (gB (oS Wo)).1.length 0 (stC (oS Wo) 20 1 (stQ (oS Wo) j k v)) = stV (oS Wo) → ∀ (cz : Nat), cz + 2 * j + 50 ≤ 250 → ∀ (t : ThlS) (r : Nat → BooS), V n t r Wo → ∀ (H : Heap) (locs : List Loc), va_P D vwCl ([] ++ (TR cA ad hr h0 t r ++ [])) H → va_D A ([] ++ (TR cA ad hr h0 t r ++ [])) → va_S A s.heap H locs → ∀ ls : Array Slot, lv_has ls 4 [(2, .int (iI (k : Int))), (1, .int v), (0, .ref (h0 0))] → W p l e rm s m ([.ref (h0 0)] : List Value).toArray below meth c H locs cz (6 * cz) (MQ below (lQ D cA A (fun _ => some (.int (stV (oS Wo)))) (fun u : ThlS × (Nat → BooS) => V n u.1 u.2 Wo) (fun u => TR cA ad hr h0 u.1 u.2)) ([.ref (h0 0)] : List Value).toArray s 250 1500 A) (F0 m 175 ls []) := by
    clear hP hD hS hl
    intro j
    induction j with
    | zero =>
      intro k hk v hv cz hcz t r hV H locs hP hD hS ls hl
      refine lv_iload_n hx hb dL_state_175 rfl (lv_at hl 0 rfl) ?_
      refine lv_aload_n hx hb dL_state_176 rfl (lv_at hl 2 rfl) ?_
      have e0 := r_promptCount (N := 2000) hV.R w
      refine ocTz (t9 := t) B rfl hP hD hS (kX12_promptCount l D cA ad hr h0 _ 2000  t (iI ((gP (oS Wo)).length : Int)) e0) qco_X12_promptCount qml_L_163 qin_X12_promptCount qse_X12_promptCount qini_X12 (show xCd yX12_promptCount 0 = true by decide +kernel) (by rw [← erm]; rfl) hl.1 rfl (lv_room (Nat.le_of_ble_eq_true rfl)) dL_state_177 ⟨by rw [← erm]; show cz ≤ 250; omega, by rw [← erm]; show 6 * cz ≤ 1500; omega⟩ (fun H locs hP hD hS => ?_)
      refine lv_icmp_ge (tgt := 209) hx hb dL_state_180 (by decide) (fun _ => ?_) (fun cc => absurd (by rw [i_le (by omega) (by omega) (by omega) (by omega)]; omega) cc)
      have hv : stB (oS Wo) (gB (oS Wo)).1.length 0 (stC (oS Wo) 20 1 v) = stV (oS Wo) := hv
      refine lv_iconst (v := 1) hx hb dL_state_209 (by decide) ?_
      refine lv_istore_n (lv' := [(2, .int (iI ((1 : Nat) : Int))), (1, .int v), (0, .ref (h0 0))]) hx hb dL_state_210 rfl hl (by decide) rfl (fun ls hl => ?_)
      exact L211 20 1 (by omega) v hv cz (by omega) t r hV H locs hP hD hS ls (lv_sub hl [0, 1, 2] rfl)
    | succ j ih =>
      intro k hk v hv cz hcz t r hV H locs hP hD hS ls hl
      refine lv_iload_n hx hb dL_state_175 rfl (lv_at hl 0 rfl) ?_
      refine lv_aload_n hx hb dL_state_176 rfl (lv_at hl 2 rfl) ?_
      have e0 := r_promptCount (N := 2000) hV.R w
      refine ocTz (t9 := t) B rfl hP hD hS (kX12_promptCount l D cA ad hr h0 _ 2000  t (iI ((gP (oS Wo)).length : Int)) e0) qco_X12_promptCount qml_L_163 qin_X12_promptCount qse_X12_promptCount qini_X12 (show xCd yX12_promptCount 0 = true by decide +kernel) (by rw [← erm]; rfl) hl.1 rfl (lv_room (Nat.le_of_ble_eq_true rfl)) dL_state_177 ⟨by rw [← erm]; show cz ≤ 250; omega, by rw [← erm]; show 6 * cz ≤ 1500; omega⟩ (fun H locs hP hD hS => ?_)
      refine lv_icmp_ge (tgt := 209) hx hb dL_state_180 (by decide) (fun cc => absurd cc (by rw [i_le (by omega) (by omega) (by omega) (by omega)]; omega)) (fun _ => ?_)
      have e1 := r_hoursUntilPrompt (N := 2000) hV.R w (z := (k : Int)) (by omega)
      rw [if_pos (by omega), Int.toNat_natCast] at e1
      have e2 := r_timesLeft (N := 2000) hV.R w (z := (k : Int)) (by omega)
      rw [if_pos (by omega), Int.toNat_natCast] at e2
      refine lv_bipush (v := 31) hx hb dL_state_183 (by decide) ?_
      refine lv_bipush (v := 31) hx hb dL_state_185 (by decide) ?_
      refine lv_iload_n hx hb dL_state_187 rfl (lv_at hl 1 rfl) ?_
      refine lv_imul hx hb dL_state_188 ?_
      refine lv_aload_n hx hb dL_state_189 rfl (lv_at hl 2 rfl) ?_
      refine lv_iload_n hx hb dL_state_190 rfl (lv_at hl 0 rfl) ?_
      refine ocT (t9 := t) (mc := 1) (ms := 6) B rfl hP hD hS (kX12_hoursUntilPrompt l hl9 D cA ad hr h0 _ 2000 (iI (k : Int)) t (0, iI ((gP (oS Wo))[k]?.getD (0, 0, 0, 0, 0, 0)).2.2.2.2.2) e1) qco_X12_hoursUntilPrompt qml_L_166 qin_X12_hoursUntilPrompt qse_X12_hoursUntilPrompt qini_X12 (show xCd yX12_hoursUntilPrompt 1 = true by decide +kernel) (by rw [← erm]; rfl) hl.1 rfl (lv_room (Nat.le_of_ble_eq_true rfl)) dL_state_191 ⟨by rw [← erm]; show cz + 1 ≤ 250; omega, by rw [← erm]; show 6 * cz + 6 ≤ 1500; omega⟩ (fun H locs hP hD hS => ?_)
      refine lv_iadd hx hb dL_state_194 ?_
      refine lv_imul hx hb dL_state_195 ?_
      refine lv_aload_n hx hb dL_state_196 rfl (lv_at hl 2 rfl) ?_
      refine lv_iload_n hx hb dL_state_197 rfl (lv_at hl 0 rfl) ?_
      refine ocT (t9 := t) (mc := 1) (ms := 6) B rfl hP hD hS (kX12_timesLeft l hl9 D cA ad hr h0 _ 2000 (iI (k : Int)) t (0, iI ((gP (oS Wo))[k]?.getD (0, 0, 0, 0, 0, 0)).2.2.2.2.1) e2) qco_X12_timesLeft qml_L_169 qin_X12_timesLeft qse_X12_timesLeft qini_X12 (show xCd yX12_timesLeft 1 = true by decide +kernel) (by rw [← erm]; rfl) hl.1 rfl (lv_room (Nat.le_of_ble_eq_true rfl)) dL_state_198 ⟨by rw [← erm]; show cz + 1 + 1 ≤ 250; omega, by rw [← erm]; show 6 * cz + 6 + 6 ≤ 1500; omega⟩ (fun H locs hP hD hS => ?_)
      refine lv_iadd hx hb dL_state_201 ?_
      refine lv_istore_n (lv' := [(1, .int (stQ1 (oS Wo) k v)), (2, .int (iI (k : Int))), (0, .ref (h0 0))]) hx hb dL_state_202 rfl hl (by decide) rfl (fun ls hl => ?_)
      refine lv_iinc (v := iI ((k + 1 : Nat) : Int)) (lv' := [(2, .int (iI ((k + 1 : Nat) : Int))), (1, .int (stQ1 (oS Wo) k v)), (0, .ref (h0 0))]) hx hb dL_state_203 hl (k := 1) rfl (by show iI (k : Int) + iI 1 = _; rw [i_add]; rfl) (by decide) rfl (fun ls hl => ?_)
      refine lv_goto (tgt := 175) hx hb dL_state_206 (by decide) ?_
      have h6 : 6 * cz + 6 + 6 = 6 * (cz + 1 + 1) := by omega
      rw [h6]
      exact ih (k + 1) (by omega) (stQ1 (oS Wo) k v) hv (cz + 1 + 1) (by omega) t r hV H locs hP hD hS ls (lv_sub hl [0, 1, 2] rfl)
  have L90 : ∀ (j k : Nat), k + j = jK (gJ (oS Wo)) → ∀ (v : Int32), stB (oS Wo) (gB (oS Wo)).1.length 0 (stC (oS Wo) 20 1 (stQ (oS Wo) (gP (oS Wo)).length 0 (stE (oS Wo) j k v))) = stV (oS Wo) → ∀ (cz : Nat), cz + 6 * j + 62 ≤ 250 → ∀ (t : ThlS) (r : Nat → BooS), V n t r Wo → ∀ (H : Heap) (locs : List Loc), va_P D vwCl ([] ++ (TR cA ad hr h0 t r ++ [])) H → va_D A ([] ++ (TR cA ad hr h0 t r ++ [])) → va_S A s.heap H locs → ∀ ls : Array Slot, lv_has ls 4 [(2, .int (iI (k : Int))), (1, .int v), (0, .ref (h0 0))] → W p l e rm s m ([.ref (h0 0)] : List Value).toArray below meth c H locs cz (6 * cz) (MQ below (lQ D cA A (fun _ => some (.int (stV (oS Wo)))) (fun u : ThlS × (Nat → BooS) => V n u.1 u.2 Wo) (fun u => TR cA ad hr h0 u.1 u.2)) ([.ref (h0 0)] : List Value).toArray s 250 1500 A) (F0 m 90 ls []) := by
    clear hP hD hS hl
    intro j
    induction j with
    | zero =>
      intro k hk v hv cz hcz t r hV H locs hP hD hS ls hl
      refine lv_iload_n hx hb dL_state_90 rfl (lv_at hl 0 rfl) ?_
      refine lv_aload_n hx hb dL_state_91 rfl (lv_at hl 2 rfl) ?_
      have e0 := r_entryCount (N := 2000) hV.R w
      refine ocTz (t9 := t) B rfl hP hD hS (kX12_entryCount l D cA ad hr h0 _ 2000  t (iI (jK (gJ (oS Wo)) : Int)) e0) qco_X12_entryCount qml_L_42 qin_X12_entryCount qse_X12_entryCount qini_X12 (show xCd yX12_entryCount 0 = true by decide +kernel) (by rw [← erm]; rfl) hl.1 rfl (lv_room (Nat.le_of_ble_eq_true rfl)) dL_state_92 ⟨by rw [← erm]; show cz ≤ 250; omega, by rw [← erm]; show 6 * cz ≤ 1500; omega⟩ (fun H locs hP hD hS => ?_)
      refine lv_icmp_ge (tgt := 173) hx hb dL_state_95 (by decide) (fun _ => ?_) (fun cc => absurd (by rw [i_le (by omega) (by omega) (by omega) (by omega)]; omega) cc)
      have hv : stB (oS Wo) (gB (oS Wo)).1.length 0 (stC (oS Wo) 20 1 (stQ (oS Wo) (gP (oS Wo)).length 0 v)) = stV (oS Wo) := hv
      refine lv_iconst (v := 0) hx hb dL_state_173 (by decide) ?_
      refine lv_istore_n (lv' := [(2, .int (iI ((0 : Nat) : Int))), (1, .int v), (0, .ref (h0 0))]) hx hb dL_state_174 rfl hl (by decide) rfl (fun ls hl => ?_)
      exact L175 (gP (oS Wo)).length 0 (by omega) v hv cz (by omega) t r hV H locs hP hD hS ls (lv_sub hl [0, 1, 2] rfl)
    | succ j ih =>
      intro k hk v hv cz hcz t r hV H locs hP hD hS ls hl
      refine lv_iload_n hx hb dL_state_90 rfl (lv_at hl 0 rfl) ?_
      refine lv_aload_n hx hb dL_state_91 rfl (lv_at hl 2 rfl) ?_
      have e0 := r_entryCount (N := 2000) hV.R w
      refine ocTz (t9 := t) B rfl hP hD hS (kX12_entryCount l D cA ad hr h0 _ 2000  t (iI (jK (gJ (oS Wo)) : Int)) e0) qco_X12_entryCount qml_L_42 qin_X12_entryCount qse_X12_entryCount qini_X12 (show xCd yX12_entryCount 0 = true by decide +kernel) (by rw [← erm]; rfl) hl.1 rfl (lv_room (Nat.le_of_ble_eq_true rfl)) dL_state_92 ⟨by rw [← erm]; show cz ≤ 250; omega, by rw [← erm]; show 6 * cz ≤ 1500; omega⟩ (fun H locs hP hD hS => ?_)
      refine lv_icmp_ge (tgt := 173) hx hb dL_state_95 (by decide) (fun cc => absurd cc (by rw [i_le (by omega) (by omega) (by omega) (by omega)]; omega)) (fun _ => ?_)
      have e1 := r_entryAt (N := 2000) hV.R w (z := (k : Int)) (by omega)
      rw [if_pos (by omega), show (jN (gJ (oS Wo)) : Int) - jK (gJ (oS Wo)) + (k : Int) = (enN (oS Wo) k : Int) by unfold enN; omega] at e1
      have hen : jN (gJ (oS Wo)) - jK (gJ (oS Wo)) ≤ enN (oS Wo) k ∧ enN (oS Wo) k < jN (gJ (oS Wo)) := by unfold enN; omega
      have e2 := r_debitOf (N := 2000) hV.R w (z := (enN (oS Wo) k : Int)) (by omega)
      rw [if_pos (by omega), Int.toNat_natCast] at e2
      have e3 := r_creditOf (N := 2000) hV.R w (z := (enN (oS Wo) k : Int)) (by omega)
      rw [if_pos (by omega), Int.toNat_natCast] at e3
      have e4 := r_amountOf (N := 2000) hV.R w (z := (enN (oS Wo) k : Int)) (by omega)
      rw [if_pos (by omega), Int.toNat_natCast] at e4
      have e5 := r_hourOf (N := 2000) hV.R w (z := (enN (oS Wo) k : Int)) (by omega)
      rw [if_pos (by omega), Int.toNat_natCast] at e5
      have e6 := r_isReversed (N := 2000) hV.R w (z := (enN (oS Wo) k : Int)) (by omega)
      rw [if_pos (by omega), Int.toNat_natCast] at e6
      refine lv_aload_n hx hb dL_state_98 rfl (lv_at hl 2 rfl) ?_
      refine lv_iload_n hx hb dL_state_99 rfl (lv_at hl 0 rfl) ?_
      refine ocT (t9 := t) (mc := 1) (ms := 6) B rfl hP hD hS (kX12_entryAt l hl9 D cA ad hr h0 _ 2000 (iI (k : Int)) t (0, iI (enN (oS Wo) k : Int)) e1) qco_X12_entryAt qml_L_45 qin_X12_entryAt qse_X12_entryAt qini_X12 (show xCd yX12_entryAt 1 = true by decide +kernel) (by rw [← erm]; rfl) hl.1 rfl (lv_room (Nat.le_of_ble_eq_true rfl)) dL_state_100 ⟨by rw [← erm]; show cz + 1 ≤ 250; omega, by rw [← erm]; show 6 * cz + 6 ≤ 1500; omega⟩ (fun H locs hP hD hS => ?_)
      refine lv_istore_n (lv' := [(3, .int (iI (enN (oS Wo) k : Int))), (2, .int (iI (k : Int))), (1, .int v), (0, .ref (h0 0))]) hx hb dL_state_103 rfl hl (by decide) rfl (fun ls hl => ?_)
      refine lv_bipush (v := 31) hx hb dL_state_104 (by decide) ?_
      refine lv_bipush (v := 31) hx hb dL_state_106 (by decide) ?_
      refine lv_bipush (v := 31) hx hb dL_state_108 (by decide) ?_
      refine lv_bipush (v := 31) hx hb dL_state_110 (by decide) ?_
      refine lv_iload_n hx hb dL_state_112 rfl (lv_at hl 2 rfl) ?_
      refine lv_imul hx hb dL_state_113 ?_
      refine lv_iload_n hx hb dL_state_114 rfl (lv_at hl 0 rfl) ?_
      refine lv_iadd hx hb dL_state_115 ?_
      refine lv_imul hx hb dL_state_116 ?_
      refine lv_aload_n hx hb dL_state_117 rfl (lv_at hl 3 rfl) ?_
      refine lv_iload_n hx hb dL_state_118 rfl (lv_at hl 0 rfl) ?_
      refine ocT (t9 := t) (mc := 1) (ms := 6) B rfl hP hD hS (kX12_debitOf l hl9 D cA ad hr h0 _ 2000 (iI (enN (oS Wo) k : Int)) t (0, iI (jD (gJ (oS Wo)) (enN (oS Wo) k))) e2) qco_X12_debitOf qml_L_119 qin_X12_debitOf qse_X12_debitOf qini_X12 (show xCd yX12_debitOf 1 = true by decide +kernel) (by rw [← erm]; rfl) hl.1 rfl (lv_room (Nat.le_of_ble_eq_true rfl)) dL_state_119 ⟨by rw [← erm]; show cz + 1 + 1 ≤ 250; omega, by rw [← erm]; show 6 * cz + 6 + 6 ≤ 1500; omega⟩ (fun H locs hP hD hS => ?_)
      refine lv_iadd hx hb dL_state_122 ?_
      refine lv_imul hx hb dL_state_123 ?_
      refine lv_aload_n hx hb dL_state_124 rfl (lv_at hl 3 rfl) ?_
      refine lv_iload_n hx hb dL_state_125 rfl (lv_at hl 0 rfl) ?_
      refine ocT (t9 := t) (mc := 1) (ms := 6) B rfl hP hD hS (kX12_creditOf l hl9 D cA ad hr h0 _ 2000 (iI (enN (oS Wo) k : Int)) t (0, iI (jC (gJ (oS Wo)) (enN (oS Wo) k))) e3) qco_X12_creditOf qml_L_154 qin_X12_creditOf qse_X12_creditOf qini_X12 (show xCd yX12_creditOf 1 = true by decide +kernel) (by rw [← erm]; rfl) hl.1 rfl (lv_room (Nat.le_of_ble_eq_true rfl)) dL_state_126 ⟨by rw [← erm]; show cz + 1 + 1 + 1 ≤ 250; omega, by rw [← erm]; show 6 * cz + 6 + 6 + 6 ≤ 1500; omega⟩ (fun H locs hP hD hS => ?_)
      refine lv_iadd hx hb dL_state_129 ?_
      refine lv_imul hx hb dL_state_130 ?_
      refine lv_aload_n hx hb dL_state_131 rfl (lv_at hl 3 rfl) ?_
      refine lv_iload_n hx hb dL_state_132 rfl (lv_at hl 0 rfl) ?_
      refine ocT (t9 := t) (mc := 1) (ms := 6) B rfl hP hD hS (kX12_amountOf l hl9 D cA ad hr h0 _ 2000 (iI (enN (oS Wo) k : Int)) t (0, iL (jA (gJ (oS Wo)) (enN (oS Wo) k))) e4) qco_X12_amountOf qml_L_157 qin_X12_amountOf qse_X12_amountOf qini_X12 (show xCd yX12_amountOf 1 = true by decide +kernel) (by rw [← erm]; rfl) hl.1 rfl (lv_room (Nat.le_of_ble_eq_true rfl)) dL_state_133 ⟨by rw [← erm]; show cz + 1 + 1 + 1 + 1 ≤ 250; omega, by rw [← erm]; show 6 * cz + 6 + 6 + 6 + 6 ≤ 1500; omega⟩ (fun H locs hP hD hS => ?_)
      refine lv_l2i hx hb dL_state_136 rfl ?_
      rw [l_toI]
      refine lv_iadd hx hb dL_state_137 ?_
      refine lv_istore_n (lv' := [(1, .int (stE1 (oS Wo) k v)), (3, .int (iI (enN (oS Wo) k : Int))), (2, .int (iI (k : Int))), (0, .ref (h0 0))]) hx hb dL_state_138 rfl hl (by decide) rfl (fun ls hl => ?_)
      refine lv_bipush (v := 31) hx hb dL_state_139 (by decide) ?_
      refine lv_bipush (v := 31) hx hb dL_state_141 (by decide) ?_
      refine lv_iload_n hx hb dL_state_143 rfl (lv_at hl 0 rfl) ?_
      refine lv_imul hx hb dL_state_144 ?_
      refine lv_aload_n hx hb dL_state_145 rfl (lv_at hl 3 rfl) ?_
      refine lv_iload_n hx hb dL_state_146 rfl (lv_at hl 1 rfl) ?_
      refine ocT (t9 := t) (mc := 1) (ms := 6) B rfl hP hD hS (kX12_hourOf l hl9 D cA ad hr h0 _ 2000 (iI (enN (oS Wo) k : Int)) t (0, iI (jH (gJ (oS Wo)) (enN (oS Wo) k))) e5) qco_X12_hourOf qml_L_160 qin_X12_hourOf qse_X12_hourOf qini_X12 (show xCd yX12_hourOf 1 = true by decide +kernel) (by rw [← erm]; rfl) hl.1 rfl (lv_room (Nat.le_of_ble_eq_true rfl)) dL_state_147 ⟨by rw [← erm]; show cz + 1 + 1 + 1 + 1 + 1 ≤ 250; omega, by rw [← erm]; show 6 * cz + 6 + 6 + 6 + 6 + 6 ≤ 1500; omega⟩ (fun H locs hP hD hS => ?_)
      refine lv_iadd hx hb dL_state_150 ?_
      refine lv_imul hx hb dL_state_151 ?_
      refine lv_aload_n hx hb dL_state_152 rfl (lv_at hl 3 rfl) ?_
      refine lv_iload_n hx hb dL_state_153 rfl (lv_at hl 1 rfl) ?_
      refine ocT (t9 := t) (mc := 1) (ms := 6) B rfl hP hD hS (kX12_isReversed l hl9 D cA ad hr h0 _ 2000 (iI (enN (oS Wo) k : Int)) t (0, iB (decide (jM (gJ (oS Wo)) (enN (oS Wo) k) = 1))) e6) qco_X12_isReversed qml_L_122 qin_X12_isReversed qse_X12_isReversed qini_X12 (show xCd yX12_isReversed 1 = true by decide +kernel) (by rw [← erm]; rfl) hl.1 rfl (lv_room (Nat.le_of_ble_eq_true rfl)) dL_state_154 ⟨by rw [← erm]; show cz + 1 + 1 + 1 + 1 + 1 + 1 ≤ 250; omega, by rw [← erm]; show 6 * cz + 6 + 6 + 6 + 6 + 6 + 6 ≤ 1500; omega⟩ (fun H locs hP hD hS => ?_)
      refine lv_if_eq (tgt := 164) hx hb dL_state_157 (by decide) (fun cc => ?_) (fun cc => ?_)
      · have cc : decide (jM (gJ (oS Wo)) (enN (oS Wo) k) = 1) = false := by rw [← b_zero]; exact cc
        have cm := of_decide_eq_false cc
        refine lv_iconst (v := 0) hx hb dL_state_164 (by decide) ?_
        have ev : 31 * (31 * stE1 (oS Wo) k v + iI (jH (gJ (oS Wo)) (enN (oS Wo) k))) + (0 : Int32) = stE2 (oS Wo) k (stE1 (oS Wo) k v) := by unfold stE2; rw [if_neg cm]
        refine lv_iadd hx hb dL_state_165 ?_
        rw [ev]
        refine lv_istore_n (lv' := [(1, .int (stE2 (oS Wo) k (stE1 (oS Wo) k v))), (3, .int (iI (enN (oS Wo) k : Int))), (2, .int (iI (k : Int))), (0, .ref (h0 0))]) hx hb dL_state_166 rfl hl (by decide) rfl (fun ls hl => ?_)
        refine lv_iinc (v := iI ((k + 1 : Nat) : Int)) (lv' := [(2, .int (iI ((k + 1 : Nat) : Int))), (1, .int (stE2 (oS Wo) k (stE1 (oS Wo) k v))), (3, .int (iI (enN (oS Wo) k : Int))), (0, .ref (h0 0))]) hx hb dL_state_167 hl (k := 2) rfl (by show iI (k : Int) + iI 1 = _; rw [i_add]; rfl) (by decide) rfl (fun ls hl => ?_)
        refine lv_goto (tgt := 90) hx hb dL_state_170 (by decide) ?_
        have h6 : 6 * cz + 6 + 6 + 6 + 6 + 6 + 6 = 6 * (cz + 1 + 1 + 1 + 1 + 1 + 1) := by omega
        rw [h6]
        exact ih (k + 1) (by omega) (stE2 (oS Wo) k (stE1 (oS Wo) k v)) hv (cz + 1 + 1 + 1 + 1 + 1 + 1) (by omega) t r hV H locs hP hD hS ls (lv_sub hl [0, 1, 3] rfl)
      · have cm : jM (gJ (oS Wo)) (enN (oS Wo) k) = 1 := by
          by_cases h9 : jM (gJ (oS Wo)) (enN (oS Wo) k) = 1
          · exact h9
          · rw [decide_eq_false h9] at cc; exact absurd rfl cc
        refine lv_iconst (v := 1) hx hb dL_state_160 (by decide) ?_
        refine lv_goto (tgt := 165) hx hb dL_state_161 (by decide) ?_
        have ev : 31 * (31 * stE1 (oS Wo) k v + iI (jH (gJ (oS Wo)) (enN (oS Wo) k))) + (1 : Int32) = stE2 (oS Wo) k (stE1 (oS Wo) k v) := by unfold stE2; rw [if_pos cm]
        refine lv_iadd hx hb dL_state_165 ?_
        rw [ev]
        refine lv_istore_n (lv' := [(1, .int (stE2 (oS Wo) k (stE1 (oS Wo) k v))), (3, .int (iI (enN (oS Wo) k : Int))), (2, .int (iI (k : Int))), (0, .ref (h0 0))]) hx hb dL_state_166 rfl hl (by decide) rfl (fun ls hl => ?_)
        refine lv_iinc (v := iI ((k + 1 : Nat) : Int)) (lv' := [(2, .int (iI ((k + 1 : Nat) : Int))), (1, .int (stE2 (oS Wo) k (stE1 (oS Wo) k v))), (3, .int (iI (enN (oS Wo) k : Int))), (0, .ref (h0 0))]) hx hb dL_state_167 hl (k := 2) rfl (by show iI (k : Int) + iI 1 = _; rw [i_add]; rfl) (by decide) rfl (fun ls hl => ?_)
        refine lv_goto (tgt := 90) hx hb dL_state_170 (by decide) ?_
        have h6 : 6 * cz + 6 + 6 + 6 + 6 + 6 + 6 = 6 * (cz + 1 + 1 + 1 + 1 + 1 + 1) := by omega
        rw [h6]
        exact ih (k + 1) (by omega) (stE2 (oS Wo) k (stE1 (oS Wo) k v)) hv (cz + 1 + 1 + 1 + 1 + 1 + 1) (by omega) t r hV H locs hP hD hS ls (lv_sub hl [0, 1, 3] rfl)
  have L31 : ∀ (j k : Nat), k + j = aN (gA (oS Wo)) → ∀ (v : Int32), stB (oS Wo) (gB (oS Wo)).1.length 0 (stC (oS Wo) 20 1 (stQ (oS Wo) (gP (oS Wo)).length 0 (stE (oS Wo) (jK (gJ (oS Wo))) 0 (stA (oS Wo) j k v)))) = stV (oS Wo) → ∀ (cz : Nat), cz + 5 * j + 182 ≤ 250 → ∀ (t : ThlS) (r : Nat → BooS), V n t r Wo → ∀ (H : Heap) (locs : List Loc), va_P D vwCl ([] ++ (TR cA ad hr h0 t r ++ [])) H → va_D A ([] ++ (TR cA ad hr h0 t r ++ [])) → va_S A s.heap H locs → ∀ ls : Array Slot, lv_has ls 4 [(2, .int (iI (k : Int))), (1, .int v), (0, .ref (h0 0))] → W p l e rm s m ([.ref (h0 0)] : List Value).toArray below meth c H locs cz (6 * cz) (MQ below (lQ D cA A (fun _ => some (.int (stV (oS Wo)))) (fun u : ThlS × (Nat → BooS) => V n u.1 u.2 Wo) (fun u => TR cA ad hr h0 u.1 u.2)) ([.ref (h0 0)] : List Value).toArray s 250 1500 A) (F0 m 31 ls []) := by
    clear hP hD hS hl
    intro j
    induction j with
    | zero =>
      intro k hk v hv cz hcz t r hV H locs hP hD hS ls hl
      refine lv_iload_n hx hb dL_state_31 rfl (lv_at hl 0 rfl) ?_
      refine lv_aload_n hx hb dL_state_32 rfl (lv_at hl 2 rfl) ?_
      have e0 := r_accountCount (N := 2000) hV.R w
      refine ocTz (t9 := t) B rfl hP hD hS (kX12_accountCount l D cA ad hr h0 _ 2000  t (iI (aN (gA (oS Wo)) : Int)) e0) qco_X12_accountCount qml_L_30 qin_X12_accountCount qse_X12_accountCount qini_X12 (show xCd yX12_accountCount 0 = true by decide +kernel) (by rw [← erm]; rfl) hl.1 rfl (lv_room (Nat.le_of_ble_eq_true rfl)) dL_state_33 ⟨by rw [← erm]; show cz ≤ 250; omega, by rw [← erm]; show 6 * cz ≤ 1500; omega⟩ (fun H locs hP hD hS => ?_)
      refine lv_icmp_ge (tgt := 88) hx hb dL_state_36 (by decide) (fun _ => ?_) (fun cc => absurd (by rw [i_le (by omega) (by omega) (by omega) (by omega)]; omega) cc)
      have hv : stB (oS Wo) (gB (oS Wo)).1.length 0 (stC (oS Wo) 20 1 (stQ (oS Wo) (gP (oS Wo)).length 0 (stE (oS Wo) (jK (gJ (oS Wo))) 0 v))) = stV (oS Wo) := hv
      refine lv_iconst (v := 0) hx hb dL_state_88 (by decide) ?_
      refine lv_istore_n (lv' := [(2, .int (iI ((0 : Nat) : Int))), (1, .int v), (0, .ref (h0 0))]) hx hb dL_state_89 rfl hl (by decide) rfl (fun ls hl => ?_)
      exact L90 (jK (gJ (oS Wo))) 0 (by omega) v hv cz (by omega) t r hV H locs hP hD hS ls (lv_sub hl [0, 1, 2] rfl)
    | succ j ih =>
      intro k hk v hv cz hcz t r hV H locs hP hD hS ls hl
      refine lv_iload_n hx hb dL_state_31 rfl (lv_at hl 0 rfl) ?_
      refine lv_aload_n hx hb dL_state_32 rfl (lv_at hl 2 rfl) ?_
      have e0 := r_accountCount (N := 2000) hV.R w
      refine ocTz (t9 := t) B rfl hP hD hS (kX12_accountCount l D cA ad hr h0 _ 2000  t (iI (aN (gA (oS Wo)) : Int)) e0) qco_X12_accountCount qml_L_30 qin_X12_accountCount qse_X12_accountCount qini_X12 (show xCd yX12_accountCount 0 = true by decide +kernel) (by rw [← erm]; rfl) hl.1 rfl (lv_room (Nat.le_of_ble_eq_true rfl)) dL_state_33 ⟨by rw [← erm]; show cz ≤ 250; omega, by rw [← erm]; show 6 * cz ≤ 1500; omega⟩ (fun H locs hP hD hS => ?_)
      refine lv_icmp_ge (tgt := 88) hx hb dL_state_36 (by decide) (fun cc => absurd cc (by rw [i_le (by omega) (by omega) (by omega) (by omega)]; omega)) (fun _ => ?_)
      refine lv_bipush (v := 31) hx hb dL_state_39 (by decide) ?_
      refine lv_bipush (v := 31) hx hb dL_state_41 (by decide) ?_
      refine lv_bipush (v := 31) hx hb dL_state_43 (by decide) ?_
      refine lv_bipush (v := 31) hx hb dL_state_45 (by decide) ?_
      refine lv_iload_n hx hb dL_state_47 rfl (lv_at hl 1 rfl) ?_
      refine lv_imul hx hb dL_state_48 ?_
      refine lv_aload_n hx hb dL_state_49 rfl (lv_at hl 2 rfl) ?_
      refine lv_iload_n hx hb dL_state_50 rfl (lv_at hl 0 rfl) ?_
      have e1 := r_kind (N := 2000) hV.R w (z := (k : Int)) (by omega)
      rw [if_pos (by omega), Int.toNat_natCast] at e1
      refine ocT (t9 := t) (mc := 1) (ms := 6) B rfl hP hD hS (kX12_kind l hl9 D cA ad hr h0 _ 2000 (iI (k : Int)) t (0, iI (aK (gA (oS Wo)) k)) e1) qco_X12_kind qml_L_144 qin_X12_kind qse_X12_kind qini_X12 (show xCd yX12_kind 1 = true by decide +kernel) (by rw [← erm]; rfl) hl.1 rfl (lv_room (Nat.le_of_ble_eq_true rfl)) dL_state_51 ⟨by rw [← erm]; show cz + 1 ≤ 250; omega, by rw [← erm]; show 6 * cz + 6 ≤ 1500; omega⟩ (fun H locs hP hD hS => ?_)
      refine lv_iadd hx hb dL_state_54 ?_
      refine lv_imul hx hb dL_state_55 ?_
      refine lv_aload_n hx hb dL_state_56 rfl (lv_at hl 2 rfl) ?_
      refine lv_bipush (v := 12) hx hb dL_state_57 (by decide) ?_
      refine lv_iload_n hx hb dL_state_59 rfl (lv_at hl 0 rfl) ?_
      refine lv_iconst (v := 0) hx hb dL_state_60 (by decide) ?_
      refine ocLW (F := fun u => u) (mc := 2) (ms := 12) B rfl hP hD hS (l_act12 l hl9 D cA ad an tt hr h0 _ n (iI (k : Int)) 0 t r Wo hV) qcw_L_act qml_L_33 qst_L_act qini_L (show xCd yL_act 4 = true by decide +kernel) (by rw [← erm]; rfl) hl.1 rfl (lv_room (Nat.le_of_ble_eq_true rfl)) dL_state_61 ⟨by rw [← erm]; show cz + 1 + 2 ≤ 250; omega, by rw [← erm]; show 6 * cz + 6 + 12 ≤ 1500; omega⟩ (fun u hV H locs hP hD hS => ?_)
      rw [i_int (by omega) (by omega)]
      refine lv_iadd hx hb dL_state_64 ?_
      refine lv_imul hx hb dL_state_65 ?_
      refine lv_aload_n hx hb dL_state_66 rfl (lv_at hl 2 rfl) ?_
      refine lv_iload_n hx hb dL_state_67 rfl (lv_at hl 0 rfl) ?_
      have e2 := r_debits (N := 2000) hV.R w (z := (k : Int)) (by omega)
      rw [if_pos (by omega), Int.toNat_natCast] at e2
      refine ocT (t9 := u.1) (mc := 1) (ms := 6) B rfl hP hD hS (kX12_debits l hl9 D cA ad hr h0 _ 2000 (iI (k : Int)) u.1 (0, iL (aD (gA (oS Wo)) k)) e2) qco_X12_debits qml_L_147 qin_X12_debits qse_X12_debits qini_X12 (show xCd yX12_debits 1 = true by decide +kernel) (by rw [← erm]; rfl) hl.1 rfl (lv_room (Nat.le_of_ble_eq_true rfl)) dL_state_68 ⟨by rw [← erm]; show cz + 1 + 2 + 1 ≤ 250; omega, by rw [← erm]; show 6 * cz + 6 + 12 + 6 ≤ 1500; omega⟩ (fun H locs hP hD hS => ?_)
      refine lv_l2i hx hb dL_state_71 rfl ?_
      rw [l_toI]
      refine lv_iadd hx hb dL_state_72 ?_
      refine lv_imul hx hb dL_state_73 ?_
      refine lv_aload_n hx hb dL_state_74 rfl (lv_at hl 2 rfl) ?_
      refine lv_iload_n hx hb dL_state_75 rfl (lv_at hl 0 rfl) ?_
      have e3 := r_credits (N := 2000) hV.R w (z := (k : Int)) (by omega)
      rw [if_pos (by omega), Int.toNat_natCast] at e3
      refine ocT (t9 := u.1) (mc := 1) (ms := 6) B rfl hP hD hS (kX12_credits l hl9 D cA ad hr h0 _ 2000 (iI (k : Int)) u.1 (0, iL (aC (gA (oS Wo)) k)) e3) qco_X12_credits qml_L_151 qin_X12_credits qse_X12_credits qini_X12 (show xCd yX12_credits 1 = true by decide +kernel) (by rw [← erm]; rfl) hl.1 rfl (lv_room (Nat.le_of_ble_eq_true rfl)) dL_state_76 ⟨by rw [← erm]; show cz + 1 + 2 + 1 + 1 ≤ 250; omega, by rw [← erm]; show 6 * cz + 6 + 12 + 6 + 6 ≤ 1500; omega⟩ (fun H locs hP hD hS => ?_)
      refine lv_l2i hx hb dL_state_79 rfl ?_
      rw [l_toI]
      refine lv_iadd hx hb dL_state_80 ?_
      refine lv_istore_n (lv' := [(1, .int (stA1 (oS Wo) k v)), (2, .int (iI (k : Int))), (0, .ref (h0 0))]) hx hb dL_state_81 rfl hl (by decide) rfl (fun ls hl => ?_)
      refine lv_iinc (v := iI ((k + 1 : Nat) : Int)) (lv' := [(2, .int (iI ((k + 1 : Nat) : Int))), (1, .int (stA1 (oS Wo) k v)), (0, .ref (h0 0))]) hx hb dL_state_82 hl (k := 1) rfl (by show iI (k : Int) + iI 1 = _; rw [i_add]; rfl) (by decide) rfl (fun ls hl => ?_)
      refine lv_goto (tgt := 31) hx hb dL_state_85 (by decide) ?_
      have h6 : 6 * cz + 6 + 12 + 6 + 6 = 6 * (cz + 1 + 2 + 1 + 1) := by omega
      rw [h6]
      exact ih (k + 1) (by omega) (stA1 (oS Wo) k v) hv (cz + 1 + 2 + 1 + 1) (by omega) u.1 u.2 hV H locs hP hD hS ls (lv_sub hl [0, 1, 2] rfl)
  refine lv_bipush (v := 31) hx hb dL_state_0 (by decide) ?_
  refine lv_bipush (v := 31) hx hb dL_state_2 (by decide) ?_
  refine lv_bipush (v := 31) hx hb dL_state_4 (by decide) ?_
  refine lv_aload_n hx hb dL_state_6 rfl (lv_at hl 0 rfl) ?_
  have e_hour := r_hour (N := 2000) hV.R w
  refine ocTz (t9 := t) B rfl hP hD hS (kX12_hour l D cA ad hr h0 _ 2000  t (iI (gH (oS Wo) : Int)) e_hour) qco_X12_hour qml_L_132 qin_X12_hour qse_X12_hour qini_X12 (show xCd yX12_hour 0 = true by decide +kernel) (by rw [← erm]; rfl) hl.1 rfl (lv_room (Nat.le_of_ble_eq_true rfl)) dL_state_7 ⟨Nat.zero_le _, Nat.zero_le _⟩ (fun H locs hP hD hS => ?_)
  refine lv_imul hx hb dL_state_10 ?_
  refine lv_aload_n hx hb dL_state_11 rfl (lv_at hl 0 rfl) ?_
  have e_curtainCount := r_curtainCount (N := 2000) hV.R w
  refine ocTz (t9 := t) B rfl hP hD hS (kX12_curtainCount l D cA ad hr h0 _ 2000  t (iI (gC (oS Wo) : Int)) e_curtainCount) qco_X12_curtainCount qml_L_135 qin_X12_curtainCount qse_X12_curtainCount qini_X12 (show xCd yX12_curtainCount 0 = true by decide +kernel) (by rw [← erm]; rfl) hl.1 rfl (lv_room (Nat.le_of_ble_eq_true rfl)) dL_state_12 ⟨Nat.zero_le _, Nat.zero_le _⟩ (fun H locs hP hD hS => ?_)
  refine lv_iadd hx hb dL_state_15 ?_
  refine lv_imul hx hb dL_state_16 ?_
  refine lv_aload_n hx hb dL_state_17 rfl (lv_at hl 0 rfl) ?_
  have e_costumeCount := r_costumeCount (N := 2000) (Nat.le_refl _) hV.R w
  refine ocTz (t9 := t) B rfl hP hD hS (kX12_costumeCount l D cA ad hr h0 _ 2000  t (iI (lSum (gL (oS Wo)))) e_costumeCount) qco_X12_costumeCount qml_L_138 qin_X12_costumeCount qse_X12_costumeCount qini_X12 (show xCd yX12_costumeCount 0 = true by decide +kernel) (by rw [← erm]; rfl) hl.1 rfl (lv_room (Nat.le_of_ble_eq_true rfl)) dL_state_18 ⟨Nat.zero_le _, Nat.zero_le _⟩ (fun H locs hP hD hS => ?_)
  refine lv_iadd hx hb dL_state_21 ?_
  refine lv_imul hx hb dL_state_22 ?_
  refine lv_aload_n hx hb dL_state_23 rfl (lv_at hl 0 rfl) ?_
  have e_lotCount := r_lotCount (N := 2000) hV.R w
  refine ocTz (t9 := t) B rfl hP hD hS (kX12_lotCount l D cA ad hr h0 _ 2000  t (iI ((gL (oS Wo)).length : Int)) e_lotCount) qco_X12_lotCount qml_L_141 qin_X12_lotCount qse_X12_lotCount qini_X12 (show xCd yX12_lotCount 0 = true by decide +kernel) (by rw [← erm]; rfl) hl.1 rfl (lv_room (Nat.le_of_ble_eq_true rfl)) dL_state_24 ⟨Nat.zero_le _, Nat.zero_le _⟩ (fun H locs hP hD hS => ?_)
  refine lv_iadd hx hb dL_state_27 ?_
  refine lv_istore_n (lv' := [(1, .int (stP (oS Wo))), (0, .ref (h0 0))]) hx hb dL_state_28 rfl hl (by decide) rfl (fun ls hl => ?_)
  refine lv_iconst (v := 0) hx hb dL_state_29 (by decide) ?_
  refine lv_istore_n (lv' := [(2, .int (iI ((0 : Nat) : Int))), (1, .int (stP (oS Wo))), (0, .ref (h0 0))]) hx hb dL_state_30 rfl hl (by decide) rfl (fun ls hl => ?_)
  exact L31 (aN (gA (oS Wo))) 0 (by omega) (stP (oS Wo)) rfl 0 (by omega) t r hV H locs hP hD hS ls hl
