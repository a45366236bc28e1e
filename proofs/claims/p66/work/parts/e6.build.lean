/-! ===== build, whole ===== -/
theorem sA0_all : (List.range 6).all (fun i => isKdB (aK sA0 i) && decide (-1 ≤ aP sA0 i) && decide (aP sA0 i < i) && decide (0 ≤ aD sA0 i) && decide (0 ≤ aC sA0 i)) = true := by decide +kernel
theorem wo0 : WO 0 0 sO0 := by
  have hWB : WB0 sA0 := by
    refine ⟨by decide, by decide, fun i hi => ?_, by decide +kernel, fun i hi => ?_, by decide +kernel⟩
    · have h := List.all_eq_true.mp sA0_all i (List.mem_range.mpr hi)
      simp only [Bool.and_eq_true, Bool.or_eq_true, decide_eq_true_eq, isKdB] at h
      unfold isKd
      omega
    · have hi : 6 ≤ i := hi
      have e1 : aD sA0 i = 0 := if_neg (by omega)
      have e2 : aC sA0 i = 0 := if_neg (by omega)
      exact ⟨e1, e2⟩
  have hJ : WJ sJ0 6 0 := ⟨by decide, fun e h1 h2 => absurd h2 (Nat.not_lt_zero _)⟩
  have hG : WG sG0 := ⟨hWB, hJ, ⟨by decide, fun x h => absurd h List.not_mem_nil⟩, ⟨by decide, fun x h => absurd h List.not_mem_nil⟩, ⟨by decide, by decide, fun x h => absurd h List.not_mem_nil⟩, by decide, by decide, by decide +kernel, by decide +kernel⟩
  have hB : BD 0 0 sG0 := ⟨by decide +kernel, by decide +kernel, by decide, by decide, by decide, by decide⟩
  exact ⟨⟨hG, hB⟩, fun S h => absurd h List.not_mem_nil, fun S h => (nomatch h), by decide, ⟨by decide, fun x h => absurd h List.not_mem_nil⟩, ⟨by decide, fun x h => absurd h List.not_mem_nil⟩, by decide, by decide⟩
section OAT
variable {p : Program} {l : Launch} {e : Env} {R : Room} {s : State} {m : MethodId} {As0 : List Value} {below : List Frame} {meth : Method} {c : Code} {H : Heap} {locs : List Loc} {cells slots mc ms : Nat} {Q : State → Prop}
variable {cc : ByteArray} {nL index pc : Nat} {ret0 : Option FieldType} {ls : Array Slot} {st0 rest : List Value} {D : va_G} {cA : Nat → ClassId} {ad an tt : Nat → Nat} {ws : va_W} {A : Nat → Prop} {b L : Nat} {xs : Nat → Int32}
theorem sX_pass (hS : va_S A s.heap H locs) (hX : va_X b L xs s s.heap) (hbl : b < s.heap.size) (hbA : ¬ A b) : ∀ U : State, U.heap = H → s.WarmedH U.vm → sX b L xs H.size U := fun U hU hW => ⟨by rw [hU]; exact (hX.kept (hS.2.1 b hbl hbA)).moved hW.alike, Nat.lt_of_lt_of_le hbl hS.1⟩
theorem ocAt (B : lB p l s m As0 c meth cc nL ret0 D cA ad an tt A) (hP : va_P D vwCl ws H) (hD : va_D A ws) (hS : va_S A s.heap H locs) (hX : va_X b L xs s s.heap) (hbl : b < s.heap.size) (hbA : ¬ A b) (hL : L ≤ 260) {k : Nat} (hk : k < 1000)
    (hml : Cond.methodLink RL index yL_at ∈ xW) (hR : (Nat.ble 1 R.frames && Nat.ble 21 R.locals) = true) (hsize : ls.size = nL) (hst : st0 = .int (iI (k : Int)) :: .ref b :: rest) (hW : 2 * (F0 m pc ls st0).monitorRoom + (rest.map fun v => v.category).sum ≤ 8) (hdg : decode cc pc = .ok (.invokestatic index, 3)) (hcs : cells + 0 ≤ R.cells ∧ slots + 0 ≤ R.slots)
    (kk : ∀ (H1 : Heap) (locs1 : List Loc), va_P D vwCl ws H1 → va_D A ws → va_S A s.heap H1 locs1 → W p l e R s m As0.toArray below meth c H1 locs1 (cells + 0) (slots + 0) Q (F0 m (pc + 3) ls (.int (atX L xs k) :: rest))) :
    W p l e R s m As0.toArray below meth c H locs cells slots Q (F0 m pc ls st0) := by
  obtain ⟨S, hret, hlocks, hK, hA, hQ, hE⟩ := B
  simp only [Bool.and_eq_true, Nat.ble_eq] at hR
  exact lCall (rest := rest) (lRunS (n := 2) (As := [.ref b, .int (iI (k : Int))]) (rest := rest) S exX (l_at l D cA ad an tt _ b L xs k hk hL) qco_L_at hml qst_L_at qini_L (by decide +kernel) (by simp only [Bool.and_eq_true, beq_iff_eq, Nat.ble_eq]; exact ⟨⟨⟨trivial, trivial⟩, hR.1⟩, hR.2⟩) hQ hE hS hA hK hP hD [] rfl rfl (sX_pass hS hX hbl hbA) rfl rfl hsize hst hW hdg hcs) hP hD hS hA [] rfl (fun _ => ws) (fun _ _ => rfl) (fun _ _ i q h => .inl ⟨List.not_mem_nil, h⟩) (fun _ _ => kk)
theorem lAret {α : Type} {px : α → Prop} {F : α → va_W} {w : α → Option Value} {a : Nat} {C : String} (u : α) (hv : w u = some (.ref a)) (hp : px u) (hx : p.tables.exec = Jvm.exec) (hb : c.code = cc) (hr : meth.sig.returnType = some (.object C)) (hlocks : meth.locks = false) (hP : va_P D vwCl (F u) H) (hK : va_K D vwCl (xT cA) s) (hD : va_D A (F u)) (hS : va_S A s.heap H locs) (hdg : decode cc pc = .ok (.areturn, 1)) :
    W p l e R s m As0.toArray below meth c H locs mc ms (MQ below (lQ D cA A w px F) As0.toArray s mc ms A) (F0 m pc ls [.ref a]) :=
  W.aret hx hb hr (Or.inl ⟨C, rfl⟩) (Or.inr ⟨a, rfl⟩) (fun t ht hW => ⟨⟨u, by rw [hv], hp, by rw [ht]; exact hP, va_K.moved hW.alike hK, hD⟩, hS.F ht⟩) hS.2.2 hdg hlocks
end OAT
def qOf (cv : Int32) : Nat := (shI cv 15 &&& 15).toInt.toNat
theorem qOf_lt (cv : Int32) : qOf cv < 16 ∧ shI cv 15 &&& 15 = iI (qOf cv : Int) := by
  obtain ⟨j, h1, h2⟩ := and15_all (shI cv 15)
  have e : qOf cv = j := by
    unfold qOf
    rw [h2, i_int (by omega) (by omega)]
    omega
  rw [e]
  exact ⟨h1, h2⟩
def bM (q : Nat) (cv ac nn : Int32) (Wo : SO) : SO := match q with
  | 0 => bM0 cv ac nn Wo
  | 1 => bM1 cv ac nn Wo
  | 2 => bM2 cv ac nn Wo
  | 3 => bM3 cv ac nn Wo
  | 4 => bM4 cv ac nn Wo
  | 5 => bM5 cv ac nn Wo
  | 6 => bM6 cv ac nn Wo
  | 7 => bM7 cv ac nn Wo
  | 8 => bM8 cv ac nn Wo
  | 9 => bM9 cv ac nn Wo
  | 10 => bM10 cv ac nn Wo
  | 11 => bM11 cv ac nn Wo
  | 12 => bM12 cv ac nn Wo
  | 13 => bM13 cv ac nn Wo
  | 14 => bM14 cv ac nn Wo
  | _ => bM15 cv ac nn Wo

def b0 (cv ac : Int32) (Wo : SO) : SO := (lO Wo (gPost (oS Wo) (((cv &&& 15) - (cv &&& 15) / ac * ac) : Int32).toInt (((shI cv 4 &&& 15) - (shI cv 4 &&& 15) / ac * ac) : Int32).toInt ((1 + (shI cv 8 &&& 127)) : Int32).toInt)).2.2
def bP (cv nn : Int32) (Wo : SO) : SO := if shI cv 11 &&& 3 = 0 then (lO Wo (gPass (oS Wo) ((1 + (nn &&& 7)) : Int32).toInt)).2.2 else Wo
def bIter (cv : Int32) (Wo : SO) : SO := bP cv (shI cv 19 &&& 63) (bM (qOf cv) cv (iI (aN (gA (oS Wo)) : Int)) (shI cv 19 &&& 63) (b0 cv (iI (aN (gA (oS Wo)) : Int)) Wo))
def bLoop (L : Nat) (xs : Nat → Int32) : Nat → Nat → SO → SO
  | 0, _, Wo => Wo
  | j + 1, k, Wo => bLoop L xs j (k + 1) (bIter (atX L xs k) Wo)
def bA1 (zz : Int32) (k : Nat) (Wo : SO) : SO := (lO Wo (gOpenB (oS Wo) (((shI zz (2 + 4 * iI (k : Int)) &&& 15) - (shI zz (2 + 4 * iI (k : Int)) &&& 15) / iI (aN (gA (oS Wo)) : Int) * iI (aN (gA (oS Wo)) : Int)) : Int32).toInt)).2.2
def bA (zz : Int32) : Nat → Nat → SO → SO
  | 0, _, Wo => Wo
  | j + 1, k, Wo => bA zz j (k + 1) (bA1 zz k Wo)
def q3Of (x : Int32) : Nat := (x &&& 3).toInt.toNat
theorem q3Of_lt (x : Int32) : q3Of x < 4 ∧ x &&& 3 = iI (q3Of x : Int) := by
  obtain ⟨j, h1, h2⟩ := and3_all x
  have e : q3Of x = j := by
    unfold q3Of
    rw [h2, i_int (by omega) (by omega)]
    omega
  rw [e]
  exact ⟨h1, h2⟩
def bO (zz : Int32) (Wo : SO) : SO := if shI zz 14 &&& 1 = 1 then (lO Wo (gOpen (oS Wo) (chI (iI ((txI 0).getD (q3Of (shI zz 15)) 0))).toInt)).2.2 else Wo
/-- what build makes of a script -/
def bW (L : Nat) (xs : Nat → Int32) : SO := bLoop L xs 12 1 (bO (atX L xs 0) (bA (atX L xs 0) (q3Of (atX L xs 0)) 0 sO0))
section BLD2
variable {p : Program} {l : Launch} {e : Env} {rm : Room} {s : State} {m : MethodId} {below : List Frame} {meth : Method} {c : Code} {H : Heap} {locs : List Loc} {cz sl : Nat} {Q : State → Prop} {ls : Array Slot} {D : va_G} {cA : Nat → ClassId} {ad an tt : Nat → Nat} {hr : Nat → Nat → Nat} {h0 : Nat → Nat} {A : Nat → Prop} {b n L : Nat} {xs : Nat → Int32} {t : ThlS} {r : Nat → BooS} {Wo : SO}
theorem b_mid {nn ac cv kv zz : Int32} (hl9 : l.stackTraces = false) (B : lB p l s m [.ref b] c meth cL_build 8 (some (.object "TheatreLedger")) D cA ad an tt A) (erm : RBd = rm) (hV : V n t r Wo) (hn : n + 4 ≤ 512) (hcz : cz + 5 ≤ 1000) (hsl : sl + 30 ≤ 9000) (hP : va_P D vwCl ([] ++ (TR cA ad hr h0 t r ++ [])) H) (hD : va_D A ([] ++ (TR cA ad hr h0 t r ++ []))) (hS : va_S A s.heap H locs) (hnn : ∃ q : Nat, q < 64 ∧ nn = iI (q : Int)) (hac : ¬ ac = 0) {q : Nat} (hq : q < 16) (hl : lv_has ls 8 [(7, .int nn), (6, .int (iI (q : Int))), (5, .int ac), (4, .int cv), (3, .int kv), (2, .int zz), (1, .ref (h0 0)), (0, .ref b)]) (kk : ∀ (t : ThlS) (r : Nat → BooS), V (n + 1) t r (bM q cv ac nn Wo) → ∀ (H : Heap) (locs : List Loc), va_P D vwCl ([] ++ (TR cA ad hr h0 t r ++ [])) H → va_D A ([] ++ (TR cA ad hr h0 t r ++ [])) → va_S A s.heap H locs → ∀ ls : Array Slot, lv_has ls 8 [(7, .int nn), (6, .int (iI (q : Int))), (5, .int ac), (4, .int cv), (3, .int kv), (2, .int zz), (1, .ref (h0 0)), (0, .ref b)] → W p l e rm s m ([.ref b] : List Value).toArray below meth c H locs (cz + 3) (sl + 18) Q (F0 m 428 ls [])) : W p l e rm s m ([.ref b] : List Value).toArray below meth c H locs cz sl Q (F0 m 153 ls []) := by
  obtain rfl | rfl | rfl | rfl | rfl | rfl | rfl | rfl | rfl | rfl | rfl | rfl | rfl | rfl | rfl | rfl : q = 0 ∨ q = 1 ∨ q = 2 ∨ q = 3 ∨ q = 4 ∨ q = 5 ∨ q = 6 ∨ q = 7 ∨ q = 8 ∨ q = 9 ∨ q = 10 ∨ q = 11 ∨ q = 12 ∨ q = 13 ∨ q = 14 ∨ q = 15 := by omega
  · exact b_mid0 hl9 B erm hV hn hcz hsl hP hD hS hl kk
  · exact b_mid1 hl9 B erm hV hn hcz hsl hP hD hS hl kk
  · exact b_mid2 hl9 B erm hV hn hcz hsl hP hD hS hl kk
  · exact b_mid3 hl9 B erm hV hn hcz hsl hP hD hS hl kk
  · exact b_mid4 hl9 B erm hV hn hcz hsl hP hD hS hl kk
  · exact b_mid5 hl9 B erm hV hn hcz hsl hP hD hS hl kk
  · exact b_mid6 hl9 B erm hV hn hcz hsl hP hD hS hl kk
  · exact b_mid7 hl9 B erm hV hn hcz hsl hP hD hS hl kk
  · exact b_mid8 hl9 B erm hV hn hcz hsl hP hD hS hl kk
  · exact b_mid9 hl9 B erm hV hn hcz hsl hP hD hS hl kk
  · exact b_mid10 hl9 B erm hV hn hcz hsl hP hD hS hnn hl kk
  · exact b_mid11 hl9 B erm hV hn hcz hsl hP hD hS hl kk
  · exact b_mid12 hl9 B erm hV hn hcz hsl hP hD hS hac hl kk
  · exact b_mid13 hl9 B erm hV hn hcz hsl hP hD hS hac hl kk
  · exact b_mid14 hl9 B erm hV hn hcz hsl hP hD hS hl kk
  · exact b_mid15 hl9 B erm hV hn hcz hsl hP hD hS hl kk
set_option maxRecDepth 100000 in
set_option maxHeartbeats 4000000 in
theorem b_seg0 {k : Nat} (hk : k < 1000) {zz : Int32} (hl9 : l.stackTraces = false) (B : lB p l s m [.ref b] c meth cL_build 8 (some (.object "TheatreLedger")) D cA ad an tt A) (erm : RBd = rm) (hV : V n t r Wo) (hn : n + 4 ≤ 512) (hcz : cz + 5 ≤ 1000) (hsl : sl + 30 ≤ 9000) (hP : va_P D vwCl ([] ++ (TR cA ad hr h0 t r ++ [])) H) (hD : va_D A ([] ++ (TR cA ad hr h0 t r ++ []))) (hS : va_S A s.heap H locs) (hX : va_X b L xs s s.heap) (hbl : b < s.heap.size) (hbA : ¬ A b) (hL : L ≤ 260) (hl : lv_has ls 8 [(3, .int (iI (k : Int))), (2, .int zz), (1, .ref (h0 0)), (0, .ref b)]) (kk : ∀ (t : ThlS) (r : Nat → BooS), V (n + 1) t r (b0 (atX L xs k) (iI (aN (gA (oS Wo)) : Int)) Wo) → ∀ (H : Heap) (locs : List Loc), va_P D vwCl ([] ++ (TR cA ad hr h0 t r ++ [])) H → va_D A ([] ++ (TR cA ad hr h0 t r ++ [])) → va_S A s.heap H locs → ∀ ls : Array Slot, lv_has ls 8 [(7, .int (shI (atX L xs k) 19 &&& 63)), (6, .int (iI (qOf (atX L xs k) : Int))), (5, .int (iI (aN (gA (oS Wo)) : Int))), (4, .int (atX L xs k)), (3, .int (iI (k : Int))), (2, .int zz), (1, .ref (h0 0)), (0, .ref b)] → W p l e rm s m ([.ref b] : List Value).toArray below meth c H locs (cz + 3) (sl + 18) Q (F0 m 153 ls [])) : W p l e rm s m ([.ref b] : List Value).toArray below meth c H locs cz sl Q (F0 m 87 ls []) := by
  have hx := B.1.1
  have hb := B.1.2.1
  have w := hV.w
  have nA := w.1.2.1
  have nA6 := w.1.1
  have hac : ¬ iI (aN (gA (oS Wo)) : Int) = 0 := by rw [i_lit, i_eq (by omega) (by omega) (by omega) (by omega)]; omega
  unfold b0 at kk
  refine lv_aload_n hx hb dL_build_87 rfl (lv_at hl 3 rfl) ?_
  refine lv_iload_n hx hb dL_build_88 rfl (lv_at hl 0 rfl) ?_
  refine ocAt B hP hD hS hX hbl hbA hL hk qml_L_24 (by rw [← erm]; decide) hl.1 rfl (lv_room (Nat.le_of_ble_eq_true rfl)) dL_build_89 ⟨by rw [← erm]; show cz + 0 ≤ 1000; omega, by rw [← erm]; show sl + 0 ≤ 9000; omega⟩ (fun H locs hP hD hS => ?_)
  refine lv_istore (lv' := [(4, .int (atX L xs k)), (3, .int (iI (k : Int))), (2, .int zz), (1, .ref (h0 0)), (0, .ref b)]) hx hb dL_build_92 hl (by decide) rfl (fun ls hl => ?_)
  refine lv_aload_n hx hb dL_build_94 rfl (lv_at hl 3 rfl) ?_
  have e0 := r_accountCount (N := 2000) hV.R w
  refine ocTz (t9 := t) B rfl hP hD hS (kX12_accountCount l D cA ad hr h0 _ 2000  t (iI (aN (gA (oS Wo)) : Int)) e0) qco_X12_accountCount qml_L_30 qin_X12_accountCount qse_X12_accountCount qini_X12 (show xCd yX12_accountCount 0 = true by decide +kernel) (by rw [← erm]; rfl) hl.1 rfl (lv_room (Nat.le_of_ble_eq_true rfl)) dL_build_95 ⟨by rw [← erm]; show cz + 0 ≤ 1000; omega, by rw [← erm]; show sl + 0 ≤ 9000; omega⟩ (fun H locs hP hD hS => ?_)
  refine lv_istore (lv' := [(5, .int (iI (aN (gA (oS Wo)) : Int))), (4, .int (atX L xs k)), (3, .int (iI (k : Int))), (2, .int zz), (1, .ref (h0 0)), (0, .ref b)]) hx hb dL_build_98 hl (by decide) rfl (fun ls hl => ?_)
  refine lv_aload_n hx hb dL_build_100 rfl (lv_at hl 4 rfl) ?_
  refine lv_iload hx hb dL_build_101 (lv_at hl 1 rfl) ?_
  refine lv_bipush (v := 15) hx hb dL_build_103 (by decide) ?_
  refine lv_iand hx hb dL_build_105 ?_
  refine lv_iload hx hb dL_build_106 (lv_at hl 0 rfl) ?_
  refine lv_irem hx hb dL_build_108 hac ?_
  refine lv_iload hx hb dL_build_109 (lv_at hl 1 rfl) ?_
  refine lv_iconst (v := 4) hx hb dL_build_111 (by decide) ?_
  refine lv_ishr hx hb dL_build_112 ?_
  refine lv_bipush (v := 15) hx hb dL_build_113 (by decide) ?_
  refine lv_iand hx hb dL_build_115 ?_
  refine lv_iload hx hb dL_build_116 (lv_at hl 0 rfl) ?_
  refine lv_irem hx hb dL_build_118 hac ?_
  refine lv_iconst (v := 1) hx hb dL_build_119 (by decide) ?_
  refine lv_iload hx hb dL_build_120 (lv_at hl 1 rfl) ?_
  refine lv_bipush (v := 8) hx hb dL_build_122 (by decide) ?_
  refine lv_ishr hx hb dL_build_124 ?_
  refine lv_bipush (v := 127) hx hb dL_build_125 (by decide) ?_
  refine lv_iand hx hb dL_build_127 ?_
  refine lv_iadd hx hb dL_build_128 ?_
  refine ocLW (F := fun u => u) (mc := 1) (ms := 6) B rfl hP hD hS (l_entry l hl9 D cA ad an tt hr h0 _ n (((atX L xs k) &&& 15) - ((atX L xs k) &&& 15) / (iI (aN (gA (oS Wo)) : Int)) * (iI (aN (gA (oS Wo)) : Int))) (((shI (atX L xs k) 4) &&& 15) - ((shI (atX L xs k) 4) &&& 15) / (iI (aN (gA (oS Wo)) : Int)) * (iI (aN (gA (oS Wo)) : Int))) (1 + ((shI (atX L xs k) 8) &&& 127)) t r Wo hV (by omega)) qcw_L_entry qml_L_39 qst_L_entry qini_L (show xCd yL_entry 4 = true by decide +kernel) (by rw [← erm]; rfl) hl.1 rfl (lv_room (Nat.le_of_ble_eq_true rfl)) dL_build_129 ⟨by rw [← erm]; show cz + 0 + 1 ≤ 1000; omega, by rw [← erm]; show sl + 0 + 6 ≤ 9000; omega⟩ (fun u hV9 H locs hP hD hS => ?_)
  refine lv_pop hx hb dL_build_132 rfl ?_
  refine lv_iload hx hb dL_build_133 (lv_at hl 1 rfl) ?_
  refine lv_bipush (v := 15) hx hb dL_build_135 (by decide) ?_
  refine lv_ishr hx hb dL_build_137 ?_
  refine lv_bipush (v := 15) hx hb dL_build_138 (by decide) ?_
  refine lv_iand hx hb dL_build_140 ?_
  rw [(qOf_lt (atX L xs k)).2]
  refine lv_istore (lv' := [(6, .int (iI (qOf (atX L xs k) : Int))), (5, .int (iI (aN (gA (oS Wo)) : Int))), (4, .int (atX L xs k)), (3, .int (iI (k : Int))), (2, .int zz), (1, .ref (h0 0)), (0, .ref b)]) hx hb dL_build_141 hl (by decide) rfl (fun ls hl => ?_)
  refine lv_iload hx hb dL_build_143 (lv_at hl 2 rfl) ?_
  refine lv_bipush (v := 19) hx hb dL_build_145 (by decide) ?_
  refine lv_ishr hx hb dL_build_147 ?_
  refine lv_bipush (v := 63) hx hb dL_build_148 (by decide) ?_
  refine lv_iand hx hb dL_build_150 ?_
  refine lv_istore (lv' := [(7, .int ((shI (atX L xs k) 19) &&& 63)), (6, .int (iI (qOf (atX L xs k) : Int))), (5, .int (iI (aN (gA (oS Wo)) : Int))), (4, .int (atX L xs k)), (3, .int (iI (k : Int))), (2, .int zz), (1, .ref (h0 0)), (0, .ref b)]) hx hb dL_build_151 hl (by decide) rfl (fun ls hl => ?_)
  refine W.widen (k := cz + 3) (n := sl + 18) (by omega) (by omega) ?_
  exact kk u.1 u.2 hV9 H locs hP hD hS ls hl
set_option maxRecDepth 100000 in
set_option maxHeartbeats 4000000 in
theorem b_seg10 {nn ac cv kv zz qv : Int32} (hl9 : l.stackTraces = false) (B : lB p l s m [.ref b] c meth cL_build 8 (some (.object "TheatreLedger")) D cA ad an tt A) (erm : RBd = rm) (hV : V n t r Wo) (hn : n + 4 ≤ 512) (hcz : cz + 5 ≤ 1000) (hsl : sl + 30 ≤ 9000) (hP : va_P D vwCl ([] ++ (TR cA ad hr h0 t r ++ [])) H) (hD : va_D A ([] ++ (TR cA ad hr h0 t r ++ []))) (hS : va_S A s.heap H locs) (hl : lv_has ls 8 [(7, .int nn), (6, .int qv), (5, .int ac), (4, .int cv), (3, .int kv), (2, .int zz), (1, .ref (h0 0)), (0, .ref b)]) (kk : ∀ (t : ThlS) (r : Nat → BooS), V (n + 1) t r (bP cv nn Wo) → ∀ (H : Heap) (locs : List Loc), va_P D vwCl ([] ++ (TR cA ad hr h0 t r ++ [])) H → va_D A ([] ++ (TR cA ad hr h0 t r ++ [])) → va_S A s.heap H locs → ∀ ls : Array Slot, lv_has ls 8 [(7, .int nn), (6, .int qv), (5, .int ac), (4, .int cv), (3, .int kv), (2, .int zz), (1, .ref (h0 0)), (0, .ref b)] → W p l e rm s m ([.ref b] : List Value).toArray below meth c H locs (cz + 3) (sl + 18) Q (F0 m 453 ls [])) : W p l e rm s m ([.ref b] : List Value).toArray below meth c H locs cz sl Q (F0 m 428 ls []) := by
  have hx := B.1.1
  have hb := B.1.2.1
  unfold bP at kk
  refine lv_iload hx hb dL_build_428 (lv_at hl 3 rfl) ?_
  refine lv_bipush (v := 11) hx hb dL_build_430 (by decide) ?_
  refine lv_ishr hx hb dL_build_432 ?_
  refine lv_iconst (v := 3) hx hb dL_build_433 (by decide) ?_
  refine lv_iand hx hb dL_build_434 ?_
  refine lv_if_ne (tgt := 453) hx hb dL_build_435 (by decide) (fun cc => ?_) (fun cc => ?_)
  · rw [if_neg cc] at kk
    refine W.widen (k := cz + 3) (n := sl + 18) (by omega) (by omega) ?_
    exact kk t r (hV.more (Nat.le_succ n)) H locs hP hD hS ls hl
  · rw [if_pos cc] at kk
    refine lv_aload_n hx hb dL_build_438 rfl (lv_at hl 6 rfl) ?_
    refine lv_bipush (v := 6) hx hb dL_build_439 (by decide) ?_
    refine lv_iconst (v := 1) hx hb dL_build_441 (by decide) ?_
    refine lv_iload hx hb dL_build_442 (lv_at hl 0 rfl) ?_
    refine lv_bipush (v := 7) hx hb dL_build_444 (by decide) ?_
    refine lv_iand hx hb dL_build_446 ?_
    refine lv_iadd hx hb dL_build_447 ?_
    refine lv_iconst (v := 0) hx hb dL_build_448 (by decide) ?_
    refine ocLW (F := fun u => u) (mc := 1) (ms := 6) B rfl hP hD hS (l_act6 l hl9 D cA ad an tt hr h0 _ n (1 + (nn &&& 7)) 0 t r Wo hV (by omega)) qcw_L_act qml_L_33 qst_L_act qini_L (show xCd yL_act 4 = true by decide +kernel) (by rw [← erm]; rfl) hl.1 rfl (lv_room (Nat.le_of_ble_eq_true rfl)) dL_build_449 ⟨by rw [← erm]; show cz + 1 ≤ 1000; omega, by rw [← erm]; show sl + 6 ≤ 9000; omega⟩ (fun u hV9 H locs hP hD hS => ?_)
    refine lv_pop hx hb dL_build_452 rfl ?_
    refine W.widen (k := cz + 3) (n := sl + 18) (by omega) (by omega) ?_
    exact kk u.1 u.2 hV9 H locs hP hD hS ls hl
set_option maxRecDepth 100000 in
set_option maxHeartbeats 4000000 in
theorem b_loop (hl9 : l.stackTraces = false) (B : lB p l s m [.ref b] c meth cL_build 8 (some (.object "TheatreLedger")) D cA ad an tt A) (erm : RBd = rm) (hX : va_X b L xs s s.heap) (hbl : b < s.heap.size) (hbA : ¬ A b) (hL : L ≤ 260) {zz : Int32} {res : SO} (kk : ∀ (t : ThlS) (r : Nat → BooS), V 40 t r res → ∀ (H : Heap) (locs : List Loc), va_P D vwCl ([] ++ (TR cA ad hr h0 t r ++ [])) H → va_D A ([] ++ (TR cA ad hr h0 t r ++ [])) → va_S A s.heap H locs → ∀ ls : Array Slot, lv_has ls 8 [(1, .ref (h0 0)), (0, .ref b)] → W p l e rm s m ([.ref b] : List Value).toArray below meth c H locs 990 8900 Q (F0 m 459 ls [])) : ∀ (j k : Nat), k + j = 13 → ∀ (n cz sl : Nat) (t : ThlS) (r : Nat → BooS) (Wo : SO), bLoop L xs j k Wo = res → n + 3 * j ≤ 40 → cz + 9 * j ≤ 900 → sl + 54 * j ≤ 8800 → V n t r Wo → ∀ (H : Heap) (locs : List Loc), va_P D vwCl ([] ++ (TR cA ad hr h0 t r ++ [])) H → va_D A ([] ++ (TR cA ad hr h0 t r ++ [])) → va_S A s.heap H locs → ∀ ls : Array Slot, lv_has ls 8 [(3, .int (iI (k : Int))), (2, .int zz), (1, .ref (h0 0)), (0, .ref b)] → W p l e rm s m ([.ref b] : List Value).toArray below meth c H locs cz sl Q (F0 m 81 ls []) := by
  have hx := B.1.1
  have hb := B.1.2.1
  intro j
  induction j with
  | zero =>
    intro k hk n cz sl t r Wo hres hn hcz hsl hV H locs hP hD hS ls hl
    have hres : Wo = res := hres
    subst hres
    refine lv_iload_n hx hb dL_build_81 rfl (lv_at hl 0 rfl) ?_
    refine lv_bipush (v := 13) hx hb dL_build_82 (by decide) ?_
    refine lv_icmp_ge (tgt := 459) hx hb dL_build_84 (by decide) (fun _ => ?_) (fun cc => absurd (by rw [i_lit, i_le (by omega) (by omega) (by omega) (by omega)]; omega) cc)
    refine W.widen (k := 990) (n := 8900) (by omega) (by omega) ?_
    exact kk t r (hV.more (by omega)) H locs hP hD hS ls (lv_sub hl [2, 3] rfl)
  | succ j ih =>
    intro k hk n cz sl t r Wo hres hn hcz hsl hV H locs hP hD hS ls hl
    have hres : bLoop L xs j (k + 1) (bIter (atX L xs k) Wo) = res := hres
    have w := hV.w
    have nA := w.1.2.1
    have nA6 := w.1.1
    have hac : ¬ iI (aN (gA (oS Wo)) : Int) = 0 := by rw [i_lit, i_eq (by omega) (by omega) (by omega) (by omega)]; omega
    refine lv_iload_n hx hb dL_build_81 rfl (lv_at hl 0 rfl) ?_
    refine lv_bipush (v := 13) hx hb dL_build_82 (by decide) ?_
    refine lv_icmp_ge (tgt := 459) hx hb dL_build_84 (by decide) (fun cc => absurd cc (by rw [i_lit, i_le (by omega) (by omega) (by omega) (by omega)]; omega)) (fun _ => ?_)
    refine b_seg0 (k := k) (by omega) hl9 B erm hV (by omega) (by omega) (by omega) hP hD hS hX hbl hbA hL hl (fun t r hV H locs hP hD hS ls hl => ?_)
    refine b_mid hl9 B erm hV (by omega) (by omega) (by omega) hP hD hS (and63_all _) hac (qOf_lt (atX L xs k)).1 hl (fun t r hV H locs hP hD hS ls hl => ?_)
    refine b_seg10 hl9 B erm hV (by omega) (by omega) (by omega) hP hD hS hl (fun t r hV H locs hP hD hS ls hl => ?_)
    refine lv_iinc (v := iI ((k + 1 : Nat) : Int)) (lv' := [(3, .int (iI ((k + 1 : Nat) : Int))), (7, .int (shI (atX L xs k) 19 &&& 63)), (6, .int (iI (qOf (atX L xs k) : Int))), (5, .int (iI (aN (gA (oS Wo)) : Int))), (4, .int (atX L xs k)), (2, .int zz), (1, .ref (h0 0)), (0, .ref b)]) hx hb dL_build_453 hl (k := 4) rfl (by show iI (k : Int) + iI 1 = _; rw [i_add]; rfl) (by decide) rfl (fun ls hl => ?_)
    refine lv_goto (tgt := 81) hx hb dL_build_456 (by decide) ?_
    exact ih (k + 1) (by omega) (n + 1 + 1 + 1) (cz + 3 + 3 + 3) (sl + 18 + 18 + 18) t r _ hres (by omega) (by omega) (by omega) hV H locs hP hD hS ls (lv_sub hl [0, 5, 6, 7] rfl)
set_option maxRecDepth 100000 in
set_option maxHeartbeats 4000000 in
theorem b_open (hl9 : l.stackTraces = false) (B : lB p l s m [.ref b] c meth cL_build 8 (some (.object "TheatreLedger")) D cA ad an tt A) (erm : RBd = rm) {zz : Int32} {res : SO} (kk : ∀ (t : ThlS) (r : Nat → BooS), V 3 t r res → ∀ (H : Heap) (locs : List Loc), va_P D vwCl ([] ++ (TR cA ad hr h0 t r ++ [])) H → va_D A ([] ++ (TR cA ad hr h0 t r ++ [])) → va_S A s.heap H locs → ∀ ls : Array Slot, lv_has ls 8 [(2, .int zz), (1, .ref (h0 0)), (0, .ref b)] → W p l e rm s m ([.ref b] : List Value).toArray below meth c H locs 320 6100 Q (F0 m 51 ls [])) : ∀ (j k : Nat), k + j = q3Of zz → ∀ (n cz sl : Nat) (t : ThlS) (r : Nat → BooS) (Wo : SO), bA zz j k Wo = res → n + j ≤ 3 → cz + 3 * j ≤ 310 → sl + 18 * j ≤ 6060 → V n t r Wo → ∀ (H : Heap) (locs : List Loc), va_P D vwCl ([] ++ (TR cA ad hr h0 t r ++ [])) H → va_D A ([] ++ (TR cA ad hr h0 t r ++ [])) → va_S A s.heap H locs → ∀ ls : Array Slot, lv_has ls 8 [(3, .int (iI (k : Int))), (2, .int zz), (1, .ref (h0 0)), (0, .ref b)] → W p l e rm s m ([.ref b] : List Value).toArray below meth c H locs cz sl Q (F0 m 16 ls []) := by
  have hx := B.1.1
  have hb := B.1.2.1
  obtain ⟨q1, q2⟩ := q3Of_lt zz
  intro j
  induction j with
  | zero =>
    intro k hk n cz sl t r Wo hres hn hcz hsl hV H locs hP hD hS ls hl
    have hres : Wo = res := hres
    subst hres
    refine lv_iload_n hx hb dL_build_16 rfl (lv_at hl 0 rfl) ?_
    refine lv_iload_n hx hb dL_build_17 rfl (lv_at hl 1 rfl) ?_
    refine lv_iconst (v := 3) hx hb dL_build_18 (by decide) ?_
    refine lv_iand hx hb dL_build_19 ?_
    rw [q2]
    refine lv_icmp_ge (tgt := 51) hx hb dL_build_20 (by decide) (fun _ => ?_) (fun cc => absurd (by rw [i_le (by omega) (by omega) (by omega) (by omega)]; omega) cc)
    refine W.widen (k := 320) (n := 6100) (by omega) (by omega) ?_
    exact kk t r (hV.more (by omega)) H locs hP hD hS ls (lv_sub hl [1, 2, 3] rfl)
  | succ j ih =>
    intro k hk n cz sl t r Wo hres hn hcz hsl hV H locs hP hD hS ls hl
    have hres : bA zz j (k + 1) (bA1 zz k Wo) = res := hres
    have w := hV.w
    have nA := w.1.2.1
    have nA6 := w.1.1
    have hac : ¬ iI (aN (gA (oS Wo)) : Int) = 0 := by rw [i_lit, i_eq (by omega) (by omega) (by omega) (by omega)]; omega
    have e0 := r_accountCount (N := 2000) hV.R w
    refine lv_iload_n hx hb dL_build_16 rfl (lv_at hl 0 rfl) ?_
    refine lv_iload_n hx hb dL_build_17 rfl (lv_at hl 1 rfl) ?_
    refine lv_iconst (v := 3) hx hb dL_build_18 (by decide) ?_
    refine lv_iand hx hb dL_build_19 ?_
    rw [q2]
    refine lv_icmp_ge (tgt := 51) hx hb dL_build_20 (by decide) (fun cc => absurd cc (by rw [i_le (by omega) (by omega) (by omega) (by omega)]; omega)) (fun _ => ?_)
    refine lv_aload_n hx hb dL_build_23 rfl (lv_at hl 2 rfl) ?_
    refine lv_iconst (v := 1) hx hb dL_build_24 (by decide) ?_
    refine lv_iload_n hx hb dL_build_25 rfl (lv_at hl 1 rfl) ?_
    refine lv_iconst (v := 2) hx hb dL_build_26 (by decide) ?_
    refine lv_iconst (v := 4) hx hb dL_build_27 (by decide) ?_
    refine lv_iload_n hx hb dL_build_28 rfl (lv_at hl 0 rfl) ?_
    refine lv_imul hx hb dL_build_29 ?_
    refine lv_iadd hx hb dL_build_30 ?_
    refine lv_ishr hx hb dL_build_31 ?_
    refine lv_bipush (v := 15) hx hb dL_build_32 (by decide) ?_
    refine lv_iand hx hb dL_build_34 ?_
    refine lv_aload_n hx hb dL_build_35 rfl (lv_at hl 2 rfl) ?_
    refine ocTz (t9 := t) B rfl hP hD hS (kX12_accountCount l D cA ad hr h0 _ 2000  t (iI (aN (gA (oS Wo)) : Int)) e0) qco_X12_accountCount qml_L_30 qin_X12_accountCount qse_X12_accountCount qini_X12 (show xCd yX12_accountCount 0 = true by decide +kernel) (by rw [← erm]; rfl) hl.1 rfl (lv_room (Nat.le_of_ble_eq_true rfl)) dL_build_36 ⟨by rw [← erm]; show cz ≤ 1000; omega, by rw [← erm]; show sl ≤ 9000; omega⟩ (fun H locs hP hD hS => ?_)
    refine lv_irem hx hb dL_build_39 hac ?_
    refine lv_iconst (v := 0) hx hb dL_build_40 (by decide) ?_
    refine ocLW (F := fun u => u) (mc := 1) (ms := 6) B rfl hP hD hS (l_act1 l hl9 D cA ad an tt hr h0 _ n (((shI zz (2 + (4 * (iI (k : Int))))) &&& 15) - ((shI zz (2 + (4 * (iI (k : Int))))) &&& 15) / (iI (aN (gA (oS Wo)) : Int)) * (iI (aN (gA (oS Wo)) : Int))) 0 t r Wo hV (by omega)) qcw_L_act qml_L_33 qst_L_act qini_L (show xCd yL_act 4 = true by decide +kernel) (by rw [← erm]; rfl) hl.1 rfl (lv_room (Nat.le_of_ble_eq_true rfl)) dL_build_41 ⟨by rw [← erm]; show cz + 1 ≤ 1000; omega, by rw [← erm]; show sl + 6 ≤ 9000; omega⟩ (fun u hV9 H locs hP hD hS => ?_)
    refine lv_pop hx hb dL_build_44 rfl ?_
    refine lv_iinc (v := iI ((k + 1 : Nat) : Int)) (lv' := [(3, .int (iI ((k + 1 : Nat) : Int))), (2, .int zz), (1, .ref (h0 0)), (0, .ref b)]) hx hb dL_build_45 hl (k := 0) rfl (by show iI (k : Int) + iI 1 = _; rw [i_add]; rfl) (by decide) rfl (fun ls hl => ?_)
    refine lv_goto (tgt := 16) hx hb dL_build_48 (by decide) ?_
    refine W.widen (k := cz + 3) (n := sl + 18) (by omega) (by omega) ?_
    exact ih (k + 1) (by omega) (n + 1) (cz + 3) (sl + 18) u.1 u.2 _ hres (by omega) (by omega) (by omega) hV9 H locs hP hD hS ls hl
set_option maxRecDepth 100000 in
set_option maxHeartbeats 4000000 in
theorem b_alie {zz : Int32} (hl9 : l.stackTraces = false) (B : lB p l s m [.ref b] c meth cL_build 8 (some (.object "TheatreLedger")) D cA ad an tt A) (erm : RBd = rm) (hV : V n t r Wo) (hn : n + 4 ≤ 512) (hcz : cz + 5 ≤ 1000) (hsl : sl + 30 ≤ 9000) (hP : va_P D vwCl ([] ++ (TR cA ad hr h0 t r ++ [])) H) (hD : va_D A ([] ++ (TR cA ad hr h0 t r ++ []))) (hS : va_S A s.heap H locs) (hl : lv_has ls 8 [(2, .int zz), (1, .ref (h0 0)), (0, .ref b)]) (kk : ∀ (t : ThlS) (r : Nat → BooS), V (n + 1) t r (bO zz Wo) → ∀ (H : Heap) (locs : List Loc), va_P D vwCl ([] ++ (TR cA ad hr h0 t r ++ [])) H → va_D A ([] ++ (TR cA ad hr h0 t r ++ [])) → va_S A s.heap H locs → ∀ ls : Array Slot, lv_has ls 8 [(3, .int (iI ((1 : Nat) : Int))), (2, .int zz), (1, .ref (h0 0)), (0, .ref b)] → W p l e rm s m ([.ref b] : List Value).toArray below meth c H locs (cz + 3) (sl + 18) Q (F0 m 81 ls [])) : W p l e rm s m ([.ref b] : List Value).toArray below meth c H locs cz sl Q (F0 m 51 ls []) := by
  have hx := B.1.1
  have hb := B.1.2.1
  obtain ⟨q1, q2⟩ := q3Of_lt (shI zz 15)
  unfold bO at kk
  refine lv_iload_n hx hb dL_build_51 rfl (lv_at hl 0 rfl) ?_
  refine lv_bipush (v := 14) hx hb dL_build_52 (by decide) ?_
  refine lv_ishr hx hb dL_build_54 ?_
  refine lv_iconst (v := 1) hx hb dL_build_55 (by decide) ?_
  refine lv_iand hx hb dL_build_56 ?_
  refine lv_iconst (v := 1) hx hb dL_build_57 (by decide) ?_
  refine lv_icmp_ne (tgt := 79) hx hb dL_build_58 (by decide) (fun cc => ?_) (fun cc => ?_)
  · rw [if_neg cc] at kk
    refine lv_iconst (v := 1) hx hb dL_build_79 (by decide) ?_
    refine lv_istore_n (lv' := [(3, .int (iI ((1 : Nat) : Int))), (2, .int zz), (1, .ref (h0 0)), (0, .ref b)]) hx hb dL_build_80 rfl hl (by decide) rfl (fun ls hl => ?_)
    refine W.widen (k := cz + 3) (n := sl + 18) (by omega) (by omega) ?_
    exact kk t r (hV.more (Nat.le_succ n)) H locs hP hD hS ls hl
  · rw [if_pos cc] at kk
    refine lv_aload_n hx hb dL_build_61 rfl (lv_at hl 1 rfl) ?_
    refine lv_iconst (v := 0) hx hb dL_build_62 (by decide) ?_
    refine va_ldcS hx hb B.1.2.2.2.1 (B.2.2.2.2.2.1.2.2 0 (by decide)) dL_build_63 ?_
    refine lv_iload_n hx hb dL_build_65 rfl (lv_at hl 0 rfl) ?_
    refine lv_bipush (v := 15) hx hb dL_build_66 (by decide) ?_
    refine lv_ishr hx hb dL_build_68 ?_
    refine lv_iconst (v := 3) hx hb dL_build_69 (by decide) ?_
    refine lv_iand hx hb dL_build_70 ?_
    rw [q2]
    obtain ⟨x, x1, x2, x3⟩ := tx_at (i := 0) (k := q3Of (shI zz 15)) (by decide) (Nat.lt_of_lt_of_le q1 (by decide +kernel))
    have ex : (txI 0).getD (q3Of (shI zz 15)) 0 = x := by rw [List.getD_eq_getElem?_getD, x1]; rfl
    rw [ex] at kk
    refine ocChr B hP hD hS (i := 0) (k := q3Of (shI zz 15)) (by decide) (Nat.lt_of_lt_of_le q1 (by decide +kernel)) x1 qml_L_13 (by rw [← erm]; decide) hl.1 rfl (lv_room (Nat.le_of_ble_eq_true rfl)) dL_build_71 ⟨by rw [← erm]; show cz ≤ 1000; omega, by rw [← erm]; show sl ≤ 9000; omega⟩ (fun H locs hP hD hS => ?_)
    refine lv_iconst (v := 0) hx hb dL_build_74 (by decide) ?_
    refine ocLW (F := fun u => u) (mc := 1) (ms := 6) B rfl hP hD hS (l_act0 l hl9 D cA ad an tt hr h0 _ n (iI x) 0 t r Wo hV (by omega)) qcw_L_act qml_L_33 qst_L_act qini_L (show xCd yL_act 4 = true by decide +kernel) (by rw [← erm]; rfl) hl.1 rfl (lv_room (Nat.le_of_ble_eq_true rfl)) dL_build_75 ⟨by rw [← erm]; show cz + 1 ≤ 1000; omega, by rw [← erm]; show sl + 6 ≤ 9000; omega⟩ (fun u hV9 H locs hP hD hS => ?_)
    refine lv_pop hx hb dL_build_78 rfl ?_
    refine lv_iconst (v := 1) hx hb dL_build_79 (by decide) ?_
    refine lv_istore_n (lv' := [(3, .int (iI ((1 : Nat) : Int))), (2, .int zz), (1, .ref (h0 0)), (0, .ref b)]) hx hb dL_build_80 rfl hl (by decide) rfl (fun ls hl => ?_)
    refine W.widen (k := cz + 3) (n := sl + 18) (by omega) (by omega) ?_
    exact kk u.1 u.2 hV9 H locs hP hD hS ls hl
end BLD2
set_option maxRecDepth 100000 in
set_option maxHeartbeats 4000000 in
theorem l_build (l : Launch) (hl9 : l.stackTraces = false) (D : va_G) (cA : Nat → ClassId) (ad an tt : Nat → Nat) (sz b L : Nat) (xs : Nat → Int32) (hL : L ≤ 260) : lM l yL_build (.code yL_build cL_build 8 (some (.object "TheatreLedger"))) RBd D cA ad an tt (sX b L xs sz) [] sz [.ref b] (fun u : (Nat → Nat) × (Nat → Nat → Nat) × ThlS × (Nat → BooS) => some (.ref (u.1 0))) (fun u => V 40 u.2.2.1 u.2.2.2 (bW L xs)) (fun u => TR cA ad u.2.1 u.1 u.2.2.1 u.2.2.2) 1000 9000 := by
  generalize erm : RBd = rm
  refine lMet (by decide) rfl (Nat.le_of_ble_eq_true rfl) ?_
  intro p e s m below meth c A eA B hP hD hS hsz hX ls hl
  have hl : lv_has ls 8 [(0, .ref b)] := hl
  have hx := B.1.1
  have hb := B.1.2.1
  have hbl : b < s.heap.size := by rw [hsz]; exact hX.2
  have hbA : ¬ A b := by
    rw [eA]
    rintro (⟨j, q, h⟩ | h)
    · exact nomatch h
    · exact Nat.not_le.mpr hX.2 h
  have hX := hX.1
  have hts := B.1.2.2.2.2
  have hown := B.1.2.2.2.1
  have hK := B.2.2.2.1
  have hA := B.2.2.2.2.1
  refine va_new (ci := 11) (fs := [.null, .null, .null, .null, .null, .null, .int 0, .int 0, .int 0, .int 0]) (C := RX12) (T := TX12) (N := 10) hx hb hts iX12 tyX12 tyX12_ok hown (hts _ qcs_L_18) (hts _ qit_X12) (hts _ qini_X12) hK hP hD hS hA rfl (by decide) (by rw [← erm]; exact Nat.le_of_ble_eq_true rfl) (by rw [← erm]; exact Nat.le_of_ble_eq_true rfl) dL_build_0 (fun q1 H hP hD hS => ?_)
  refine lv_dup hx hb dL_build_3 rfl ?_
  refine nCall (a := ([] : va_W)) (nRunI (rest := [.ref q1]) B.1 (nX12_init l D cA an ad q1 _) qco_X12_init qml_L_23 qin_X12_init qini_X12 (by decide +kernel) rfl (by rw [← erm]; rfl) B.2.2.2.2.2.1.1 B.2.2.2.2.2.2.2.2.1 hS hA hK hP hD rfl hl.1 rfl (lv_room (Nat.le_of_ble_eq_true rfl)) dL_build_4 ⟨by rw [← erm]; exact Nat.le_of_ble_eq_true rfl, by rw [← erm]; exact Nat.le_of_ble_eq_true rfl⟩) hP hD hS hA (fun u pu H locs hP hD hS => ?_)
  obtain ⟨h0, hr, t, r⟩ := u
  obtain ⟨e1, hRT⟩ := pu
  have e1 : h0 0 = q1 := e1
  have hV : V 0 t r sO0 := ⟨hRT, 0, 0, by omega, wo0⟩
  have hP : va_P D vwCl (TR cA ad hr h0 t r) H := hP
  have hD : va_D A (TR cA ad hr h0 t r) := hD
  have hP := ocP hP
  have hD := ocPD hD
  rw [← e1]
  refine lv_astore_n (lv' := [(1, .ref (h0 0)), (0, .ref b)]) hx hb dL_build_7 rfl hl (by decide) rfl (fun ls hl => ?_)
  refine lv_aload_n hx hb dL_build_8 rfl (lv_at hl 1 rfl) ?_
  refine lv_iconst (v := 0) hx hb dL_build_9 (by decide) ?_
  refine ocAt (k := 0) B hP hD hS hX hbl hbA hL (by decide) qml_L_24 (by rw [← erm]; decide) hl.1 rfl (lv_room (Nat.le_of_ble_eq_true rfl)) dL_build_10 ⟨by rw [← erm]; exact Nat.le_of_ble_eq_true rfl, by rw [← erm]; exact Nat.le_of_ble_eq_true rfl⟩ (fun H locs hP hD hS => ?_)
  refine lv_istore_n (lv' := [(2, .int (atX L xs 0)), (1, .ref (h0 0)), (0, .ref b)]) hx hb dL_build_13 rfl hl (by decide) rfl (fun ls hl => ?_)
  refine lv_iconst (v := 0) hx hb dL_build_14 (by decide) ?_
  refine lv_istore_n (lv' := [(3, .int (iI ((0 : Nat) : Int))), (2, .int (atX L xs 0)), (1, .ref (h0 0)), (0, .ref b)]) hx hb dL_build_15 rfl hl (by decide) rfl (fun ls hl => ?_)
  have q3 := (q3Of_lt (atX L xs 0)).1
  refine W.widen (k := 290) (n := 6000) (by omega) (by omega) ?_
  refine b_open hl9 B erm (zz := atX L xs 0) (res := bA (atX L xs 0) (q3Of (atX L xs 0)) 0 sO0) (fun t r hV H locs hP hD hS ls hl => ?_) (q3Of (atX L xs 0)) 0 (by omega) 0 290 6000 t r sO0 rfl (by omega) (by omega) (by omega) hV H _ hP hD hS ls hl
  refine b_alie hl9 B erm hV (by omega) (by omega) (by omega) hP hD hS hl (fun t r hV H locs hP hD hS ls hl => ?_)
  refine b_loop hl9 B erm hX hbl hbA hL (zz := atX L xs 0) (res := bW L xs) (fun t r hV H locs hP hD hS ls hl => ?_) 12 1 (by omega) (3 + 1) (320 + 3) (6100 + 18) t r _ rfl (by omega) (by omega) (by omega) hV H locs hP hD hS ls hl
  refine lv_aload_n hx hb dL_build_459 rfl (lv_at hl 0 rfl) ?_
  refine W.widen (k := 1000) (n := 9000) (by omega) (by omega) ?_
  exact lAret (h0, hr, t, r) rfl hV hx hb B.2.1 B.2.2.1 (ocQ hP) hK (ocQD hD) hS dL_build_460
