/-! ===== reads, writes, ends, switches in the one contract form ===== -/
def xbit (v : Int32) : Bool := decide (v = 0) || decide (v = 1)
def xnar (ty : FieldType) (v : Int32) : Bool := decide (narrow ty (.int v) = .int v)
theorem xnar_n {ty : FieldType} {v : Int32} (h : xnar ty v = true) : narrow ty (.int v) = .int v := of_decide_eq_true h
theorem xbit_or {v : Int32} (h : xbit v = true) : v = 0 ∨ v = 1 := by
  unfold xbit at h
  simpa using h
theorem xbit_n {v : Int32} (h : xbit v = true) : narrow .boolean (.int v) = .int v := by
  rcases xbit_or h with rfl | rfl <;> decide
theorem xbit_f {v : Int32} (h : xbit v = true) : fits .boolean (.int v) = true := by
  rcases xbit_or h with rfl | rfl <;> decide
section XA
variable {p : Program} {l : Launch} {e : Env} {R : Room} {s : State} {m : MethodId} {args : Array Value} {below : List Frame} {meth : Method} {c : Code} {H H0 : Heap} {locs : List Loc} {cells slots : Nat} {Q : State → Prop}
variable {cc : ByteArray} {pc a : Nat} {ls : Array Slot} {rest : List Value} {D : va_G} {cl : List vw_C} {tys : List (ClassId × FieldType)} {ws : va_W} {A : Nat → Prop}
theorem xIald (hexec : p.tables.exec = Jvm.exec) (hb : c.code = cc) (hK : va_K D cl tys s) (hP : va_P D cl ws H) (q0 t0 : Nat) {cA : ClassId} {n : Nat} {f : Nat → Int32} (ha : ws[q0]? = some (a, .inl (cA, n, .inl f))) (ht : tys[t0]? = some (cA, .int)) {i : Int32} {k : Nat} (hin : vp_in i n ∧ i.toNatClampNeg = k) (hdg : decode cc pc = .ok (.iaload, 1))
    (kk : W p l e R s m args below meth c H locs cells slots Q (F0 m (pc + 1) ls (.int (f k) :: rest))) : W p l e R s m args below meth c H locs cells slots Q (F0 m pc ls (.int i :: .ref a :: rest)) := by
  obtain ⟨h1, rfl⟩ := hin
  exact va_iald hexec hb hK hP q0 t0 ha ht h1 hdg kk
theorem xCald (hexec : p.tables.exec = Jvm.exec) (hb : c.code = cc) (hK : va_K D cl tys s) (hP : va_P D cl ws H) (q0 t0 : Nat) {cA : ClassId} {n : Nat} {f : Nat → Int32} (ha : ws[q0]? = some (a, .inl (cA, n, .inl f))) (ht : tys[t0]? = some (cA, .char)) {i : Int32} {k : Nat} (hin : vp_in i n ∧ i.toNatClampNeg = k) (hdg : decode cc pc = .ok (.caload, 1))
    (kk : W p l e R s m args below meth c H locs cells slots Q (F0 m (pc + 1) ls (.int (f k) :: rest))) : W p l e R s m args below meth c H locs cells slots Q (F0 m pc ls (.int i :: .ref a :: rest)) := by
  obtain ⟨h1, rfl⟩ := hin
  exact va_cald hexec hb hK hP q0 t0 ha ht h1 hdg kk
theorem xZald (hexec : p.tables.exec = Jvm.exec) (hb : c.code = cc) (hK : va_K D cl tys s) (hP : va_P D cl ws H) (q0 t0 : Nat) {cA : ClassId} {n : Nat} {f : Nat → Int32} (ha : ws[q0]? = some (a, .inl (cA, n, .inl f))) (ht : tys[t0]? = some (cA, .boolean)) {i : Int32} {k : Nat} (hin : vp_in i n ∧ i.toNatClampNeg = k) (hdg : decode cc pc = .ok (.baload, 1))
    (kk : W p l e R s m args below meth c H locs cells slots Q (F0 m (pc + 1) ls (.int (f k) :: rest))) : W p l e R s m args below meth c H locs cells slots Q (F0 m pc ls (.int i :: .ref a :: rest)) := by
  obtain ⟨h1, rfl⟩ := hin
  exact va_zald hexec hb hK hP q0 t0 ha ht h1 hdg kk
theorem xLald (hexec : p.tables.exec = Jvm.exec) (hb : c.code = cc) (hK : va_K D cl tys s) (hP : va_P D cl ws H) (q0 t0 : Nat) {cA : ClassId} {n : Nat} {f : Nat → Int64} (ha : ws[q0]? = some (a, .inl (cA, n, .inr (.inl f)))) (ht : tys[t0]? = some (cA, .long)) {i : Int32} {k : Nat} (hin : vp_in i n ∧ i.toNatClampNeg = k) (hdg : decode cc pc = .ok (.laload, 1))
    (kk : W p l e R s m args below meth c H locs cells slots Q (F0 m (pc + 1) ls (.long (f k) :: rest))) : W p l e R s m args below meth c H locs cells slots Q (F0 m pc ls (.int i :: .ref a :: rest)) := by
  obtain ⟨h1, rfl⟩ := hin
  exact va_lald hexec hb hK hP q0 t0 ha ht h1 hdg kk
theorem xIast {w2 : (Nat → Int32) → va_W} (hexec : p.tables.exec = Jvm.exec) (hb : c.code = cc) (hK : va_K D cl tys s) (hP : va_P D cl ws H) (hD : va_D A ws) (hS : va_S A H0 H locs) (q0 t0 : Nat) {cA : ClassId} {n : Nat} {f : Nat → Int32} (ha : ws[q0]? = some (a, .inl (cA, n, .inl f))) (ht : tys[t0]? = some (cA, .int)) {i x : Int32} {k : Nat} (hin : vp_in i n ∧ i.toNatClampNeg = k)
    (hw : ∀ z, ws.set q0 (a, .inl (cA, n, .inl z)) = w2 z) (hdg : decode cc pc = .ok (.iastore, 1))
    (kk : ∀ (g : Nat → Int32), g = upd f k x → ∀ (H1 : Heap) (locs1 : List Loc), va_P D cl (w2 g) H1 → va_D A (w2 g) → va_S A H0 H1 locs1 → W p l e R s m args below meth c H1 locs1 cells slots Q (F0 m (pc + 1) ls rest)) : W p l e R s m args below meth c H locs cells slots Q (F0 m pc ls (.int x :: .int i :: .ref a :: rest)) := by
  obtain ⟨h1, rfl⟩ := hin
  exact va_iast hexec hb hK hP hD hS q0 t0 ha ht h1 hdg (fun H1 locs1 hP hD hS => kk _ rfl H1 locs1 (hw _ ▸ hP) (hw _ ▸ hD) hS)
theorem xCast {w2 : (Nat → Int32) → va_W} (hexec : p.tables.exec = Jvm.exec) (hb : c.code = cc) (hK : va_K D cl tys s) (hP : va_P D cl ws H) (hD : va_D A ws) (hS : va_S A H0 H locs) (q0 t0 : Nat) {cA : ClassId} {n : Nat} {f : Nat → Int32} (ha : ws[q0]? = some (a, .inl (cA, n, .inl f))) (ht : tys[t0]? = some (cA, .char)) {i x : Int32} {k : Nat} (hin : vp_in i n ∧ i.toNatClampNeg = k)
    (hw : ∀ z, ws.set q0 (a, .inl (cA, n, .inl z)) = w2 z) (hdg : decode cc pc = .ok (.castore, 1))
    (kk : ∀ (g : Nat → Int32), g = upd f k (vp_nar .char x) → ∀ (H1 : Heap) (locs1 : List Loc), va_P D cl (w2 g) H1 → va_D A (w2 g) → va_S A H0 H1 locs1 → W p l e R s m args below meth c H1 locs1 cells slots Q (F0 m (pc + 1) ls rest)) : W p l e R s m args below meth c H locs cells slots Q (F0 m pc ls (.int x :: .int i :: .ref a :: rest)) := by
  obtain ⟨h1, rfl⟩ := hin
  exact va_cast hexec hb hK hP hD hS q0 t0 ha ht h1 hdg (fun H1 locs1 hP hD hS => kk _ rfl H1 locs1 (hw _ ▸ hP) (hw _ ▸ hD) hS)
theorem xZast {w2 : (Nat → Int32) → va_W} (hexec : p.tables.exec = Jvm.exec) (hb : c.code = cc) (hK : va_K D cl tys s) (hP : va_P D cl ws H) (hD : va_D A ws) (hS : va_S A H0 H locs) (q0 t0 : Nat) {cA : ClassId} {n : Nat} {f : Nat → Int32} (ha : ws[q0]? = some (a, .inl (cA, n, .inl f))) (ht : tys[t0]? = some (cA, .boolean)) {i x : Int32} {k : Nat} (hin : vp_in i n ∧ i.toNatClampNeg = k)
    (hw : ∀ z, ws.set q0 (a, .inl (cA, n, .inl z)) = w2 z) (hdg : decode cc pc = .ok (.bastore, 1))
    (kk : ∀ (g : Nat → Int32), g = upd f k (vp_nar .boolean x) → ∀ (H1 : Heap) (locs1 : List Loc), va_P D cl (w2 g) H1 → va_D A (w2 g) → va_S A H0 H1 locs1 → W p l e R s m args below meth c H1 locs1 cells slots Q (F0 m (pc + 1) ls rest)) : W p l e R s m args below meth c H locs cells slots Q (F0 m pc ls (.int x :: .int i :: .ref a :: rest)) := by
  obtain ⟨h1, rfl⟩ := hin
  exact va_zast hexec hb hK hP hD hS q0 t0 ha ht h1 hdg (fun H1 locs1 hP hD hS => kk _ rfl H1 locs1 (hw _ ▸ hP) (hw _ ▸ hD) hS)
theorem xLast {w2 : (Nat → Int64) → va_W} (hexec : p.tables.exec = Jvm.exec) (hb : c.code = cc) (hK : va_K D cl tys s) (hP : va_P D cl ws H) (hD : va_D A ws) (hS : va_S A H0 H locs) (q0 t0 : Nat) {cA : ClassId} {n : Nat} {f : Nat → Int64} (ha : ws[q0]? = some (a, .inl (cA, n, .inr (.inl f)))) (ht : tys[t0]? = some (cA, .long)) {i : Int32} {x : Int64} {k : Nat} (hin : vp_in i n ∧ i.toNatClampNeg = k)
    (hw : ∀ z, ws.set q0 (a, .inl (cA, n, .inr (.inl z))) = w2 z) (hdg : decode cc pc = .ok (.lastore, 1))
    (kk : ∀ (g : Nat → Int64), g = vp_updL f k x → ∀ (H1 : Heap) (locs1 : List Loc), va_P D cl (w2 g) H1 → va_D A (w2 g) → va_S A H0 H1 locs1 → W p l e R s m args below meth c H1 locs1 cells slots Q (F0 m (pc + 1) ls rest)) : W p l e R s m args below meth c H locs cells slots Q (F0 m pc ls (.long x :: .int i :: .ref a :: rest)) := by
  obtain ⟨h1, rfl⟩ := hin
  exact va_last hexec hb hK hP hD hS q0 t0 ha ht h1 hdg (fun H1 locs1 hP hD hS => kk _ rfl H1 locs1 (hw _ ▸ hP) (hw _ ▸ hD) hS)
theorem xTbl (hexec : p.tables.exec = Jvm.exec) (hb : c.code = cc) {dflt lo hi : Int} {offs : Array Int} {len : Nat} {x : Int32} {tgt : Nat} (hdg : decode cc pc = .ok (.tableswitch dflt lo hi offs, len)) (vs : List Int32) (hne : ∀ v ∈ vs, ¬ x = v)
    (hcov : (decide ((hi - lo + 1).toNat ≤ offs.size) && (List.range offs.size).all (fun i => decide (offs[i]? = some dflt) || vs.any (fun v => decide (v.toInt = lo + (i : Int))))) = true) (ht : (pc : Int) + dflt = (tgt : Int))
    (k : W p l e R s m args below meth c H locs cells slots Q (F0 m tgt ls rest)) : W p l e R s m args below meth c H locs cells slots Q (F0 m pc ls (.int x :: rest)) := by
  simp only [Bool.and_eq_true, decide_eq_true_eq, List.all_eq_true, List.mem_range, Bool.or_eq_true, List.any_eq_true] at hcov
  by_cases h1 : x.toInt < lo
  · exact lv_tableOut hexec hb hdg (Or.inl h1) ht k
  by_cases h2 : hi < x.toInt
  · exact lv_tableOut hexec hb hdg (Or.inr h2) ht k
  have hlt : (x.toInt - lo).toNat < offs.size := by omega
  rcases hcov.2 _ hlt with h | ⟨v, hv, hve⟩
  · exact lv_tableIn hexec hb hdg h1 h2 h ht k
  · refine absurd (Int32.toInt_inj.mp ?_) (hne v hv)
    rw [hve]
    omega
end XA
section XE
variable {p : Program} {l : Launch} {e : Env} {R : Room} {s : State} {m : MethodId} {args : Array Value} {below : List Frame} {meth : Method} {c : Code} {H : Heap} {locs : List Loc}
variable {cc : ByteArray} {pc : Nat} {ls : Array Slot} {D : va_G} {cA : Nat → ClassId} {A : Nat → Prop} {ws' : va_W}
theorem xIret {v : Int32} (hx : p.tables.exec = Jvm.exec) (hb : c.code = cc) (hr : meth.sig.returnType = some .int) (hlocks : meth.locks = false) (hP : va_P D vwCl ws' H) (hK : va_K D vwCl (xT cA) s) (hD : va_D A ws') (hS : va_S A s.heap H locs) (hdg : decode cc pc = .ok (.ireturn, 1)) :
    W p l e R s m args below meth c H locs 0 0 (MQ below (xQ D cA A ws' (some (.int v))) args s 0 0 A) (F0 m pc ls [.int v]) :=
  W.iret hx hb hr (fun t ht hW => ⟨⟨rfl, by rw [ht]; exact hP, va_K.moved hW.alike hK, hD⟩, hS.F ht⟩) hS.2.2 hdg hlocks
theorem xZret {v : Int32} {ty : FieldType} (hx : p.tables.exec = Jvm.exec) (hb : c.code = cc) (hr : meth.sig.returnType = some ty) (hlocks : meth.locks = false) (hn : narrow ty (.int v) = .int v) (hP : va_P D vwCl ws' H) (hK : va_K D vwCl (xT cA) s) (hD : va_D A ws') (hS : va_S A s.heap H locs) (hdg : decode cc pc = .ok (.ireturn, 1)) :
    W p l e R s m args below meth c H locs 0 0 (MQ below (xQ D cA A ws' (some (.int v))) args s 0 0 A) (F0 m pc ls [.int v]) :=
  W.zret hx hb hr hn (fun t ht hW => ⟨⟨rfl, by rw [ht]; exact hP, va_K.moved hW.alike hK, hD⟩, hS.F ht⟩) hS.2.2 hdg hlocks
theorem xLret {v : Int64} (hx : p.tables.exec = Jvm.exec) (hb : c.code = cc) (hr : meth.sig.returnType = some .long) (hlocks : meth.locks = false) (hP : va_P D vwCl ws' H) (hK : va_K D vwCl (xT cA) s) (hD : va_D A ws') (hS : va_S A s.heap H locs) (hdg : decode cc pc = .ok (.lreturn, 1)) :
    W p l e R s m args below meth c H locs 0 0 (MQ below (xQ D cA A ws' (some (.long v))) args s 0 0 A) (F0 m pc ls [.long v]) :=
  W.lret hx hb hr (fun t ht hW => ⟨⟨rfl, by rw [ht]; exact hP, va_K.moved hW.alike hK, hD⟩, hS.F ht⟩) hS.2.2 hdg hlocks
theorem xVret (hx : p.tables.exec = Jvm.exec) (hb : c.code = cc) (hr : meth.sig.returnType = none) (hlocks : meth.locks = false) (hP : va_P D vwCl ws' H) (hK : va_K D vwCl (xT cA) s) (hD : va_D A ws') (hS : va_S A s.heap H locs) (hdg : decode cc pc = .ok (.return_, 1)) :
    W p l e R s m args below meth c H locs 0 0 (MQ below (xQ D cA A ws' none) args s 0 0 A) (F0 m pc ls []) :=
  W.vret hx hb hr (fun t ht hW => ⟨⟨rfl, by rw [ht]; exact hP, va_K.moved hW.alike hK, hD⟩, hS.F ht⟩) hS.2.2 hdg hlocks
end XE
theorem xLook {x : Int32} {dflt : Int} {ps : List (Int × Int)} (vs : List Int32) (hne : ∀ v ∈ vs, ¬ x = v) (hcov : ps.all (fun a => decide (a.2 = dflt) || vs.any (fun v => decide (v.toInt = a.1))) = true) : Op.lookupswitch.offset ps dflt x.toInt = dflt := by
  induction ps with
  | nil => rfl
  | cons a r ih =>
    obtain ⟨a1, a2⟩ := a
    simp only [List.all_cons, Bool.and_eq_true] at hcov
    show (if a1 = x.toInt then a2 else Op.lookupswitch.offset r dflt x.toInt) = dflt
    by_cases he : a1 = x.toInt
    · rw [if_pos he]
      have h1 := hcov.1
      simp only [Bool.or_eq_true, decide_eq_true_eq, List.any_eq_true] at h1
      rcases h1 with h | ⟨v, hv, hve⟩
      · exact h
      · exact absurd (Int32.toInt_inj.mp (by rw [hve, he])) (hne v hv)
    · rw [if_neg he]
      exact ih hcov.2
