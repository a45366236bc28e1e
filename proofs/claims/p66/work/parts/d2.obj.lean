/-! ===== an object among others: its cells stand behind P and ahead of Z; its calls ===== -/
abbrev TR (cA : Nat → ClassId) (ad : Nat → Nat) (hr : Nat → Nat → Nat) (h0 : Nat → Nat) (t : ThlS) (r : Nat → BooS) : va_W := ThlW cA ad hr h0 t ++ RowW cA hr r
theorem TR_len (cA : Nat → ClassId) (ad : Nat → Nat) (hr : Nat → Nat → Nat) (h0 : Nat → Nat) (t : ThlS) (r : Nat → BooS) : (TR cA ad hr h0 t r).length = 286 := by
  rw [List.length_append, RowW_len]
  rfl
theorem TR_fst (cA : Nat → ClassId) (ad : Nat → Nat) (hr : Nat → Nat → Nat) (h0 : Nat → Nat) (t t' : ThlS) (r r' : Nat → BooS) : (TR cA ad hr h0 t r).map Prod.fst = (TR cA ad hr h0 t' r').map Prod.fst := by
  rw [List.map_append, List.map_append, RowW_fst cA hr r r']
  rfl
theorem TR_at0 (cA : Nat → ClassId) (ad : Nat → Nat) (hr : Nat → Nat → Nat) (h0 : Nat → Nat) (t : ThlS) (r : Nat → BooS) : ∃ fs, (TR cA ad hr h0 t r)[0]? = some (h0 0, .inr (11, fs)) := ⟨_, rfl⟩
theorem hp0 {α : Type} {P : α → Prop} : ∀ z ∈ ([] : List α), P z := fun _ h => nomatch h
theorem hpc {α : Type} {P : α → Prop} {a : α} {L : List α} (h : P a) (t : ∀ z ∈ L, P z) : ∀ z ∈ a :: L, P z := fun z hz => (List.mem_cons.mp hz).elim (fun e => by rw [e]; exact h) (t z)
section OB
variable {cA : Nat → ClassId} {ad : Nat → Nat} {hr : Nat → Nat → Nat} {h0 : Nat → Nat} {t t' : ThlS} {r r' : Nat → BooS} {P Z : va_W} {a : Nat}
theorem ocR_C (hp : P.length = a) : (mid a 286).map (fun i => (P ++ (TR cA ad hr h0 t r ++ Z))[i]?) = (TR cA ad hr h0 t r).map some := mid_C hp (TR_len ..)
theorem ocR_H (hp : P.length = a) : ∀ (i : Nat) (q : Nat × va_E), (P ++ (TR cA ad hr h0 t' r' ++ Z))[i]? = some q → (i ∉ mid a 286 ∧ (P ++ (TR cA ad hr h0 t r ++ Z))[i]? = some q) ∨ ∃ k : Nat, (mid a 286)[k]? = some i ∧ (TR cA ad hr h0 t' r')[k]? = some q := mid_H hp (TR_len ..) (TR_len ..)
theorem ocT_C (hp : P.length = a) : (mid a 61).map (fun i => (P ++ (TR cA ad hr h0 t r ++ Z))[i]?) = (ThlW cA ad hr h0 t).map some := by
  have h := mid_C (A := P) (B := ThlW cA ad hr h0 t) (C := RowW cA hr r ++ Z) (a := a) (n := 61) hp rfl
  rw [← List.append_assoc (ThlW cA ad hr h0 t)] at h
  exact h
theorem ocT_H (hp : P.length = a) : ∀ (i : Nat) (q : Nat × va_E), (P ++ (TR cA ad hr h0 t' r ++ Z))[i]? = some q → (i ∉ mid a 61 ∧ (P ++ (TR cA ad hr h0 t r ++ Z))[i]? = some q) ∨ ∃ k : Nat, (mid a 61)[k]? = some i ∧ (ThlW cA ad hr h0 t')[k]? = some q := by
  have h := mid_H (A := P) (B := ThlW cA ad hr h0 t) (B' := ThlW cA ad hr h0 t') (C := RowW cA hr r ++ Z) (a := a) (n := 61) hp rfl rfl
  rw [← List.append_assoc (ThlW cA ad hr h0 t'), ← List.append_assoc (ThlW cA ad hr h0 t)] at h
  exact h
end OB
section OC
variable {p : Program} {l : Launch} {e : Env} {R : Room} {s : State} {m : MethodId} {As0 As : List Value} {below : List Frame} {meth : Method} {c : Code} {H : Heap} {locs : List Loc} {cells slots mc ms : Nat} {Q : State → Prop}
variable {y : MethodName} {bytes cc : ByteArray} {maxL nL index pc : Nat} {ret ret0 : Option FieldType} {rm : Room} {ls : Array Slot} {st0 rest : List Value}
  {D : va_G} {cA : Nat → ClassId} {ad an tt : Nat → Nat} {hr : Nat → Nat → Nat} {h0 : Nat → Nat} {t t9 : ThlS} {r r9 : Nat → BooS} {P Z : va_W} {a x : Nat} {v : Option Value} {A : Nat → Prop}
/-- a call of the object that may change all of it, and may throw -/
theorem ocRx (B : lB p l s m As0 c meth cc nL ret0 D cA ad an tt A) (hp : P.length = a) (hP : va_P D vwCl (P ++ (TR cA ad hr h0 t r ++ Z)) H) (hD : va_D A (P ++ (TR cA ad hr h0 t r ++ Z))) (hS : va_S A s.heap H locs)
    (hM : vM l y bytes maxL ret rm D cA ad (TR cA ad hr h0 t r) H.size (.ref (h0 0) :: As) x v (TR cA ad hr h0 t9 r9) mc ms)
    (hco : Cond.code y bytes maxL ret ∈ xW) (hml : Cond.methodLink RL index y ∈ xW) (hin : Cond.instanceMethod y ∈ xW) (hse : Cond.selects RX12 y y ∈ xW) (hini : Cond.initialized y.cls ∈ xW) (hd : xCd y As.length = true)
    (hR : (rm.cells == mc && rm.slots == ms && Nat.ble (rm.frames + 1) R.frames && Nat.ble (8 + (maxL + 11) + rm.locals) R.locals) = true)
    (hsize : ls.size = nL) (hst : st0 = As.reverse ++ .ref (h0 0) :: rest) (hW : 2 * (F0 m pc ls st0).monitorRoom + (rest.map fun v => v.category).sum ≤ 8) (hdg : decode cc pc = .ok (.invokevirtual index, 3)) (hcs : cells + mc ≤ R.cells ∧ slots + ms ≤ R.slots)
    (kx : x ≠ 0 → ∀ (q9 : Addr) (ce : Cell) (H1 : Heap) (locs1 : List Loc), va_P D vwCl (P ++ (TR cA ad hr h0 t9 r9 ++ Z)) H1 → va_D A (P ++ (TR cA ad hr h0 t9 r9 ++ Z)) → va_S A s.heap H1 locs1 → H1[q9]? = some ce → ce.vm = .none → s.vm.findClass (xEx x) = some ce.cls → vx_W p l e R s m As0.toArray below meth c H1 locs1 (cells + mc) (slots + ms) Q (F0 m pc ls rest) q9)
    (kk : x = 0 → ∀ (H1 : Heap) (locs1 : List Loc), va_P D vwCl (P ++ (TR cA ad hr h0 t9 r9 ++ Z)) H1 → va_D A (P ++ (TR cA ad hr h0 t9 r9 ++ Z)) → va_S A s.heap H1 locs1 → W p l e R s m As0.toArray below meth c H1 locs1 (cells + mc) (slots + ms) Q (F0 m (pc + 3) ls (v.toList ++ rest))) :
    W p l e R s m As0.toArray below meth c H locs cells slots Q (F0 m pc ls st0) := by
  obtain ⟨S, hret, hlocks, hK, hA, hQ, hE⟩ := B
  obtain ⟨fs, hf⟩ := TR_at0 cA ad hr h0 t r
  exact vCall (w2 := P ++ (TR cA ad hr h0 t9 r9 ++ Z)) (vRunV S hM hco hml hin hse hini hd hR hQ.1 hE.1 hE.2.1 hS hA hK hP hD (mid a 286) (ocR_C hp) (mid_nd _ _) (q0 := 0) hf rfl rfl rfl rfl hsize hst hW hdg hcs) hP hD hS hA (mid a 286) (ocR_C hp) (TR_fst ..) (ocR_H hp) kx kk
theorem ocTx (B : lB p l s m As0 c meth cc nL ret0 D cA ad an tt A) (hp : P.length = a) (hP : va_P D vwCl (P ++ (TR cA ad hr h0 t r ++ Z)) H) (hD : va_D A (P ++ (TR cA ad hr h0 t r ++ Z))) (hS : va_S A s.heap H locs)
    (hM : vM l y bytes maxL ret rm D cA ad (ThlW cA ad hr h0 t) H.size (.ref (h0 0) :: As) x v (ThlW cA ad hr h0 t9) mc ms)
    (hco : Cond.code y bytes maxL ret ∈ xW) (hml : Cond.methodLink RL index y ∈ xW) (hin : Cond.instanceMethod y ∈ xW) (hse : Cond.selects RX12 y y ∈ xW) (hini : Cond.initialized y.cls ∈ xW) (hd : xCd y As.length = true)
    (hR : (rm.cells == mc && rm.slots == ms && Nat.ble (rm.frames + 1) R.frames && Nat.ble (8 + (maxL + 11) + rm.locals) R.locals) = true)
    (hsize : ls.size = nL) (hst : st0 = As.reverse ++ .ref (h0 0) :: rest) (hW : 2 * (F0 m pc ls st0).monitorRoom + (rest.map fun v => v.category).sum ≤ 8) (hdg : decode cc pc = .ok (.invokevirtual index, 3)) (hcs : cells + mc ≤ R.cells ∧ slots + ms ≤ R.slots)
    (kx : x ≠ 0 → ∀ (q9 : Addr) (ce : Cell) (H1 : Heap) (locs1 : List Loc), va_P D vwCl (P ++ (TR cA ad hr h0 t9 r ++ Z)) H1 → va_D A (P ++ (TR cA ad hr h0 t9 r ++ Z)) → va_S A s.heap H1 locs1 → H1[q9]? = some ce → ce.vm = .none → s.vm.findClass (xEx x) = some ce.cls → vx_W p l e R s m As0.toArray below meth c H1 locs1 (cells + mc) (slots + ms) Q (F0 m pc ls rest) q9)
    (kk : x = 0 → ∀ (H1 : Heap) (locs1 : List Loc), va_P D vwCl (P ++ (TR cA ad hr h0 t9 r ++ Z)) H1 → va_D A (P ++ (TR cA ad hr h0 t9 r ++ Z)) → va_S A s.heap H1 locs1 → W p l e R s m As0.toArray below meth c H1 locs1 (cells + mc) (slots + ms) Q (F0 m (pc + 3) ls (v.toList ++ rest))) :
    W p l e R s m As0.toArray below meth c H locs cells slots Q (F0 m pc ls st0) := by
  obtain ⟨S, hret, hlocks, hK, hA, hQ, hE⟩ := B
  obtain ⟨fs, hf⟩ : ∃ fs, (ThlW cA ad hr h0 t)[0]? = some (h0 0, .inr (11, fs)) := ⟨_, rfl⟩
  exact vCall (w2 := P ++ (TR cA ad hr h0 t9 r ++ Z)) (vRunV S hM hco hml hin hse hini hd hR hQ.1 hE.1 hE.2.1 hS hA hK hP hD (mid a 61) (ocT_C hp) (mid_nd _ _) (q0 := 0) hf rfl rfl rfl rfl hsize hst hW hdg hcs) hP hD hS hA (mid a 61) (ocT_C hp) rfl (ocT_H hp) kx kk
theorem ocRz (B : lB p l s m As0 c meth cc nL ret0 D cA ad an tt A) (hp : P.length = a) (hP : va_P D vwCl (P ++ (TR cA ad hr h0 t r ++ Z)) H) (hD : va_D A (P ++ (TR cA ad hr h0 t r ++ Z))) (hS : va_S A s.heap H locs)
    (hM : zM l y bytes maxL ret rm D cA ad (TR cA ad hr h0 t r) H.size (.ref (h0 0) :: As) v (TR cA ad hr h0 t9 r9))
    (hco : Cond.code y bytes maxL ret ∈ xW) (hml : Cond.methodLink RL index y ∈ xW) (hin : Cond.instanceMethod y ∈ xW) (hse : Cond.selects RX12 y y ∈ xW) (hini : Cond.initialized y.cls ∈ xW) (hd : xCd y As.length = true)
    (hR : (rm.cells == 0 && rm.slots == 0 && Nat.ble (rm.frames + 1) R.frames && Nat.ble (8 + (maxL + 11) + rm.locals) R.locals) = true)
    (hsize : ls.size = nL) (hst : st0 = As.reverse ++ .ref (h0 0) :: rest) (hW : 2 * (F0 m pc ls st0).monitorRoom + (rest.map fun v => v.category).sum ≤ 8) (hdg : decode cc pc = .ok (.invokevirtual index, 3)) (hcs : cells ≤ R.cells ∧ slots ≤ R.slots)
    (kk : ∀ (H1 : Heap) (locs1 : List Loc), va_P D vwCl (P ++ (TR cA ad hr h0 t9 r9 ++ Z)) H1 → va_D A (P ++ (TR cA ad hr h0 t9 r9 ++ Z)) → va_S A s.heap H1 locs1 → W p l e R s m As0.toArray below meth c H1 locs1 cells slots Q (F0 m (pc + 3) ls (v.toList ++ rest))) :
    W p l e R s m As0.toArray below meth c H locs cells slots Q (F0 m pc ls st0) := by
  obtain ⟨S, hret, hlocks, hK, hA, hQ, hE⟩ := B
  obtain ⟨fs, hf⟩ := TR_at0 cA ad hr h0 t r
  exact xCallH (w2 := P ++ (TR cA ad hr h0 t9 r9 ++ Z)) (zRunV S hM hco hml hin hse hini hd hR hQ.1 hE.1 hS hA hK hP hD (mid a 286) (ocR_C hp) (mid_nd _ _) (q0 := 0) hf rfl rfl rfl rfl hsize hst hW hdg hcs) hP hD hS hA (mid a 286) (ocR_C hp) (TR_fst ..) (ocR_H hp) kk
theorem ocTz (B : lB p l s m As0 c meth cc nL ret0 D cA ad an tt A) (hp : P.length = a) (hP : va_P D vwCl (P ++ (TR cA ad hr h0 t r ++ Z)) H) (hD : va_D A (P ++ (TR cA ad hr h0 t r ++ Z))) (hS : va_S A s.heap H locs)
    (hM : zM l y bytes maxL ret rm D cA ad (ThlW cA ad hr h0 t) H.size (.ref (h0 0) :: As) v (ThlW cA ad hr h0 t9))
    (hco : Cond.code y bytes maxL ret ∈ xW) (hml : Cond.methodLink RL index y ∈ xW) (hin : Cond.instanceMethod y ∈ xW) (hse : Cond.selects RX12 y y ∈ xW) (hini : Cond.initialized y.cls ∈ xW) (hd : xCd y As.length = true)
    (hR : (rm.cells == 0 && rm.slots == 0 && Nat.ble (rm.frames + 1) R.frames && Nat.ble (8 + (maxL + 11) + rm.locals) R.locals) = true)
    (hsize : ls.size = nL) (hst : st0 = As.reverse ++ .ref (h0 0) :: rest) (hW : 2 * (F0 m pc ls st0).monitorRoom + (rest.map fun v => v.category).sum ≤ 8) (hdg : decode cc pc = .ok (.invokevirtual index, 3)) (hcs : cells ≤ R.cells ∧ slots ≤ R.slots)
    (kk : ∀ (H1 : Heap) (locs1 : List Loc), va_P D vwCl (P ++ (TR cA ad hr h0 t9 r ++ Z)) H1 → va_D A (P ++ (TR cA ad hr h0 t9 r ++ Z)) → va_S A s.heap H1 locs1 → W p l e R s m As0.toArray below meth c H1 locs1 cells slots Q (F0 m (pc + 3) ls (v.toList ++ rest))) :
    W p l e R s m As0.toArray below meth c H locs cells slots Q (F0 m pc ls st0) := by
  obtain ⟨S, hret, hlocks, hK, hA, hQ, hE⟩ := B
  obtain ⟨fs, hf⟩ : ∃ fs, (ThlW cA ad hr h0 t)[0]? = some (h0 0, .inr (11, fs)) := ⟨_, rfl⟩
  exact xCallH (w2 := P ++ (TR cA ad hr h0 t9 r ++ Z)) (zRunV S hM hco hml hin hse hini hd hR hQ.1 hE.1 hS hA hK hP hD (mid a 61) (ocT_C hp) (mid_nd _ _) (q0 := 0) hf rfl rfl rfl rfl hsize hst hW hdg hcs) hP hD hS hA (mid a 61) (ocT_C hp) rfl (ocT_H hp) kk
/-- no throw -/
theorem ocR (B : lB p l s m As0 c meth cc nL ret0 D cA ad an tt A) (hp : P.length = a) (hP : va_P D vwCl (P ++ (TR cA ad hr h0 t r ++ Z)) H) (hD : va_D A (P ++ (TR cA ad hr h0 t r ++ Z))) (hS : va_S A s.heap H locs)
    (hM : vM l y bytes maxL ret rm D cA ad (TR cA ad hr h0 t r) H.size (.ref (h0 0) :: As) 0 v (TR cA ad hr h0 t9 r9) mc ms)
    (hco : Cond.code y bytes maxL ret ∈ xW) (hml : Cond.methodLink RL index y ∈ xW) (hin : Cond.instanceMethod y ∈ xW) (hse : Cond.selects RX12 y y ∈ xW) (hini : Cond.initialized y.cls ∈ xW) (hd : xCd y As.length = true)
    (hR : (rm.cells == mc && rm.slots == ms && Nat.ble (rm.frames + 1) R.frames && Nat.ble (8 + (maxL + 11) + rm.locals) R.locals) = true)
    (hsize : ls.size = nL) (hst : st0 = As.reverse ++ .ref (h0 0) :: rest) (hW : 2 * (F0 m pc ls st0).monitorRoom + (rest.map fun v => v.category).sum ≤ 8) (hdg : decode cc pc = .ok (.invokevirtual index, 3)) (hcs : cells + mc ≤ R.cells ∧ slots + ms ≤ R.slots)
    (kk : ∀ (H1 : Heap) (locs1 : List Loc), va_P D vwCl (P ++ (TR cA ad hr h0 t9 r9 ++ Z)) H1 → va_D A (P ++ (TR cA ad hr h0 t9 r9 ++ Z)) → va_S A s.heap H1 locs1 → W p l e R s m As0.toArray below meth c H1 locs1 (cells + mc) (slots + ms) Q (F0 m (pc + 3) ls (v.toList ++ rest))) :
    W p l e R s m As0.toArray below meth c H locs cells slots Q (F0 m pc ls st0) :=
  ocRx B hp hP hD hS hM hco hml hin hse hini hd hR hsize hst hW hdg hcs (fun h => absurd rfl h) (fun _ => kk)
theorem ocT (B : lB p l s m As0 c meth cc nL ret0 D cA ad an tt A) (hp : P.length = a) (hP : va_P D vwCl (P ++ (TR cA ad hr h0 t r ++ Z)) H) (hD : va_D A (P ++ (TR cA ad hr h0 t r ++ Z))) (hS : va_S A s.heap H locs)
    (hM : vM l y bytes maxL ret rm D cA ad (ThlW cA ad hr h0 t) H.size (.ref (h0 0) :: As) 0 v (ThlW cA ad hr h0 t9) mc ms)
    (hco : Cond.code y bytes maxL ret ∈ xW) (hml : Cond.methodLink RL index y ∈ xW) (hin : Cond.instanceMethod y ∈ xW) (hse : Cond.selects RX12 y y ∈ xW) (hini : Cond.initialized y.cls ∈ xW) (hd : xCd y As.length = true)
    (hR : (rm.cells == mc && rm.slots == ms && Nat.ble (rm.frames + 1) R.frames && Nat.ble (8 + (maxL + 11) + rm.locals) R.locals) = true)
    (hsize : ls.size = nL) (hst : st0 = As.reverse ++ .ref (h0 0) :: rest) (hW : 2 * (F0 m pc ls st0).monitorRoom + (rest.map fun v => v.category).sum ≤ 8) (hdg : decode cc pc = .ok (.invokevirtual index, 3)) (hcs : cells + mc ≤ R.cells ∧ slots + ms ≤ R.slots)
    (kk : ∀ (H1 : Heap) (locs1 : List Loc), va_P D vwCl (P ++ (TR cA ad hr h0 t9 r ++ Z)) H1 → va_D A (P ++ (TR cA ad hr h0 t9 r ++ Z)) → va_S A s.heap H1 locs1 → W p l e R s m As0.toArray below meth c H1 locs1 (cells + mc) (slots + ms) Q (F0 m (pc + 3) ls (v.toList ++ rest))) :
    W p l e R s m As0.toArray below meth c H locs cells slots Q (F0 m pc ls st0) :=
  ocTx B hp hP hD hS hM hco hml hin hse hini hd hR hsize hst hW hdg hcs (fun h => absurd rfl h) (fun _ => kk)
/-- a call of one of the law's own methods over one object -/
theorem ocL {α : Type} {w : α → Option Value} {px : α → Prop} {F : α → ThlS × (Nat → BooS)} (B : lB p l s m As0 c meth cc nL ret0 D cA ad an tt A) (hp : P.length = a) (hP : va_P D vwCl (P ++ (TR cA ad hr h0 t r ++ Z)) H) (hD : va_D A (P ++ (TR cA ad hr h0 t r ++ Z))) (hS : va_S A s.heap H locs)
    (hM : lM l y (.code y bytes maxL ret) rm D cA ad an tt (fun _ => True) (TR cA ad hr h0 t r) H.size As w px (fun u => TR cA ad hr h0 (F u).1 (F u).2) mc ms)
    (hco : Cond.code y bytes maxL ret ∈ xW) (hml : Cond.methodLink RL index y ∈ xW) (hst9 : Cond.static y ∈ xW) (hini : Cond.initialized y.cls ∈ xW) (hd : xCd y As.length = true)
    (hR : (rm.cells == mc && rm.slots == ms && Nat.ble (rm.frames + 1) R.frames && Nat.ble (8 + (maxL + 11) + rm.locals) R.locals) = true)
    (hsize : ls.size = nL) (hst : st0 = As.reverse ++ rest) (hW : 2 * (F0 m pc ls st0).monitorRoom + (rest.map fun v => v.category).sum ≤ 8) (hdg : decode cc pc = .ok (.invokestatic index, 3)) (hcs : cells + mc ≤ R.cells ∧ slots + ms ≤ R.slots)
    (kk : ∀ u, px u → ∀ (H1 : Heap) (locs1 : List Loc), va_P D vwCl (P ++ (TR cA ad hr h0 (F u).1 (F u).2 ++ Z)) H1 → va_D A (P ++ (TR cA ad hr h0 (F u).1 (F u).2 ++ Z)) → va_S A s.heap H1 locs1 → W p l e R s m As0.toArray below meth c H1 locs1 (cells + mc) (slots + ms) Q (F0 m (pc + 3) ls ((w u).toList ++ rest))) :
    W p l e R s m As0.toArray below meth c H locs cells slots Q (F0 m pc ls st0) := by
  obtain ⟨S, hret, hlocks, hK, hA, hQ, hE⟩ := B
  exact lCall (lRunS S exT hM hco hml hst9 hini hd hR hQ hE hS hA hK hP hD (mid a 286) (ocR_C hp) (mid_nd _ _) (fun _ _ _ => trivial) rfl rfl hsize hst hW hdg hcs) hP hD hS hA (mid a 286) (ocR_C hp) (fun u => P ++ (TR cA ad hr h0 (F u).1 (F u).2 ++ Z)) (fun u _ => TR_fst ..) (fun u _ => ocR_H hp) kk
theorem ocLW {α : Type} {hh : List (Nat × Nat × Nat × Nat)} {w : α → Option Value} {px : α → Prop} {F : α → ThlS × (Nat → BooS)} (B : lB p l s m As0 c meth cc nL ret0 D cA ad an tt A) (hp : P.length = a) (hP : va_P D vwCl (P ++ (TR cA ad hr h0 t r ++ Z)) H) (hD : va_D A (P ++ (TR cA ad hr h0 t r ++ Z))) (hS : va_S A s.heap H locs)
    (hM : lM l y (.codeWith y bytes maxL (some .int) hh) rm D cA ad an tt (fun _ => True) (TR cA ad hr h0 t r) H.size As w px (fun u => TR cA ad hr h0 (F u).1 (F u).2) mc ms)
    (hco : Cond.codeWith y bytes maxL (some .int) hh ∈ xW) (hml : Cond.methodLink RL index y ∈ xW) (hst9 : Cond.static y ∈ xW) (hini : Cond.initialized y.cls ∈ xW) (hd : xCd y As.length = true)
    (hR : (rm.cells == mc && rm.slots == ms && Nat.ble (rm.frames + 1) R.frames && Nat.ble (8 + (maxL + 11) + rm.locals) R.locals) = true)
    (hsize : ls.size = nL) (hst : st0 = As.reverse ++ rest) (hW : 2 * (F0 m pc ls st0).monitorRoom + (rest.map fun v => v.category).sum ≤ 8) (hdg : decode cc pc = .ok (.invokestatic index, 3)) (hcs : cells + mc ≤ R.cells ∧ slots + ms ≤ R.slots)
    (kk : ∀ u, px u → ∀ (H1 : Heap) (locs1 : List Loc), va_P D vwCl (P ++ (TR cA ad hr h0 (F u).1 (F u).2 ++ Z)) H1 → va_D A (P ++ (TR cA ad hr h0 (F u).1 (F u).2 ++ Z)) → va_S A s.heap H1 locs1 → W p l e R s m As0.toArray below meth c H1 locs1 (cells + mc) (slots + ms) Q (F0 m (pc + 3) ls ((w u).toList ++ rest))) :
    W p l e R s m As0.toArray below meth c H locs cells slots Q (F0 m pc ls st0) := by
  obtain ⟨S, hret, hlocks, hK, hA, hQ, hE⟩ := B
  exact lCall (lRunSW S exT hM hco hml hst9 hini hd hR hQ hE hS hA hK hP hD (mid a 286) (ocR_C hp) (mid_nd _ _) (fun _ _ _ => trivial) rfl rfl hsize hst hW hdg hcs) hP hD hS hA (mid a 286) (ocR_C hp) (fun u => P ++ (TR cA ad hr h0 (F u).1 (F u).2 ++ Z)) (fun u _ => TR_fst ..) (fun u _ => ocR_H hp) kk
end OC
/-- one object alone, and among none -/
theorem oc1 {cA : Nat → ClassId} {ad : Nat → Nat} {hr : Nat → Nat → Nat} {h0 : Nat → Nat} {t : ThlS} {r : Nat → BooS} : TR cA ad hr h0 t r = [] ++ (TR cA ad hr h0 t r ++ []) := by rw [List.nil_append, List.append_nil]
section OI
variable {cA : Nat → ClassId} {ad : Nat → Nat} {hr : Nat → Nat → Nat} {h0 : Nat → Nat} {t : ThlS} {r : Nat → BooS} {D : va_G} {cl : List vw_C} {H : Heap} {A : Nat → Prop}
theorem ocP (h : va_P D cl (TR cA ad hr h0 t r) H) : va_P D cl ([] ++ (TR cA ad hr h0 t r ++ [])) H := by rw [← oc1]; exact h
theorem ocQ (h : va_P D cl ([] ++ (TR cA ad hr h0 t r ++ [])) H) : va_P D cl (TR cA ad hr h0 t r) H := by rw [oc1]; exact h
theorem ocPD (h : va_D A (TR cA ad hr h0 t r)) : va_D A ([] ++ (TR cA ad hr h0 t r ++ [])) := by rw [← oc1]; exact h
theorem ocQD (h : va_D A ([] ++ (TR cA ad hr h0 t r ++ []))) : va_D A (TR cA ad hr h0 t r) := by rw [oc1]; exact h
end OI
/-- a character out of an int -/
def chI (x : Int32) : Int32 := ((Int32.toUInt32 x) % 65536).toInt32
