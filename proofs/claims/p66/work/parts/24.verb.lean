/-! verbs: codes 10-18; references that may be null; the row of verbs -/
section ZVF
variable {γ : Type}
def xvb (c : Nat) (K : Nat → Option γ) : Option γ := if 10 ≤ c ∧ c < 19 then K (c - 10) else none
theorem x_vb {c : Nat} {K : Nat → Option γ} {o : γ} (h : xvb c K = some o) : ∃ j, (j < 9 ∧ c = 10 + j) ∧ K j = some o := by
  unfold xvb at h
  split at h
  · rename_i hc
    exact ⟨c - 10, ⟨by omega, by omega⟩, h⟩
  · cases h
def xopt (o : Option Nat) (n : γ) (s : Nat → γ) : γ := match o with
  | none => n
  | some c => s c
theorem x_on {o : Option Nat} {n : γ} {s : Nat → γ} {r : γ} (h : xopt o n s = r) (e : o = none) : n = r := by subst e; exact h
theorem x_os {o : Option Nat} {n : γ} {s : Nat → γ} {r : γ} (h : xopt o n s = r) {c : Nat} (e : o = some c) : s c = r := by subst e; exact h
end ZVF
def xupq (f : Nat → Option Nat) (k : Nat) (v : Option Nat) : Nat → Option Nat := fun j => if j = k then v else f j
section ZV
variable {p : Program} {l : Launch} {e : Env} {R : Room} {s : State} {m : MethodId} {args : Array Value} {below : List Frame} {meth : Method} {c : Code} {H H0 : Heap} {locs : List Loc} {cells slots : Nat} {Q : State → Prop}
variable {cc : ByteArray} {pc a : Nat} {ls : Array Slot} {rest : List Value} {D : va_G} {cA : Nat → ClassId} {ad : Nat → Nat} {cl : List vw_C} {tys : List (ClassId × FieldType)} {ws : va_W} {A : Nat → Prop} {own : String} {index : Nat}
theorem xE.vw (hE : xE ad A s s.heap) {j : Nat} (hj : j < 9) : va_OF "TheatreLedger$Verb" "word" "Ljava/lang/String;" (.ref (ad (40 + j))) (ad (10 + j)) A s s.heap := (hE.2.2.1 j hj).1
theorem xE.vf (hE : xE ad A s s.heap) {j : Nat} (hj : j < 9) : va_OF "TheatreLedger$Verb" "form" "Ljava/lang/String;" (.ref (ad (40 + xForm.getD j 0))) (ad (10 + j)) A s s.heap := (hE.2.2.1 j hj).2
theorem xE.vs (hE : xE ad A s s.heap) : va_Z "TheatreLedger" "VERBS" "[LTheatreLedger$Verb;" (.ref (ad 30)) A s s.heap := hE.2.2.2.1.1
theorem xE.vt (hE : xE ad A s s.heap) : va_T (.object "TheatreLedger$Verb") (ad 30) 9 (fun j => .ref (ad (10 + j))) A s s.heap := hE.2.2.2.1.2
theorem xE.ss (hE : xE ad A s s.heap) : va_Z "TheatreLedger$1" "$SwitchMap$TheatreLedger$Verb" "[I" (.ref (ad 31)) A s s.heap := hE.2.2.2.2.1.1
theorem xE.st (hE : xE ad A s s.heap) : va_T .int (ad 31) 9 (fun j => .int (Int32.ofNat (j + 1))) A s s.heap := hE.2.2.2.2.1.2
theorem zVword (hexec : p.tables.exec = Jvm.exec) (hb : c.code = cc) (hE : xE ad A s s.heap) (hS : va_S A s.heap H locs) (hown : s.vm.findClass own = some m.cls) {j k : Nat} (hj : j < 9 ∧ k = 10 + j) (hlink : (Cond.fieldLink own index "TheatreLedger$Verb" "word" "Ljava/lang/String;").before args s = true) (hdg : decode cc pc = .ok (.getfield index, 3))
    (kk : W p l e R s m args below meth c H locs cells slots Q (F0 m (pc + 3) ls (.ref (ad (40 + j)) :: rest))) : W p l e R s m args below meth c H locs cells slots Q (F0 m pc ls (.ref (ad k) :: rest)) := by
  obtain ⟨h1, rfl⟩ := hj
  exact vk_getf hexec hb (hE.vw h1) hS hown hlink (fun _ h9 => h9) hdg kk
theorem zVform (hexec : p.tables.exec = Jvm.exec) (hb : c.code = cc) (hE : xE ad A s s.heap) (hS : va_S A s.heap H locs) (hown : s.vm.findClass own = some m.cls) {j k : Nat} (hj : j < 9 ∧ k = 10 + j) (hlink : (Cond.fieldLink own index "TheatreLedger$Verb" "form" "Ljava/lang/String;").before args s = true) (hdg : decode cc pc = .ok (.getfield index, 3))
    (kk : W p l e R s m args below meth c H locs cells slots Q (F0 m (pc + 3) ls (.ref (ad (40 + xForm.getD j 0)) :: rest))) : W p l e R s m args below meth c H locs cells slots Q (F0 m pc ls (.ref (ad k) :: rest)) := by
  obtain ⟨h1, rfl⟩ := hj
  exact vk_getf hexec hb (hE.vf h1) hS hown hlink (fun _ h9 => h9) hdg kk
theorem zVald (hexec : p.tables.exec = Jvm.exec) (hb : c.code = cc) (hE : xE ad A s s.heap) (hS : va_S A s.heap H locs) {i : Int32} {k : Nat} (hin : vp_in i 9 ∧ i.toNatClampNeg = k) (hdg : decode cc pc = .ok (.aaload, 1))
    (kk : W p l e R s m args below meth c H locs cells slots Q (F0 m (pc + 1) ls (.ref (ad (10 + k)) :: rest))) : W p l e R s m args below meth c H locs cells slots Q (F0 m pc ls (.int i :: .ref (ad 30) :: rest)) := by
  obtain ⟨h1, rfl⟩ := hin
  exact vb_tq hexec hb hE.vt hS h1 rfl hdg kk
theorem zSald (hexec : p.tables.exec = Jvm.exec) (hb : c.code = cc) (hE : xE ad A s s.heap) (hS : va_S A s.heap H locs) {i : Int32} {k : Nat} (hin : vp_in i 9 ∧ i.toNatClampNeg = k) (hdg : decode cc pc = .ok (.iaload, 1))
    (kk : W p l e R s m args below meth c H locs cells slots Q (F0 m (pc + 1) ls (.int (Int32.ofNat (k + 1)) :: rest))) : W p l e R s m args below meth c H locs cells slots Q (F0 m pc ls (.int i :: .ref (ad 31) :: rest)) := by
  obtain ⟨h1, rfl⟩ := hin
  exact va_ti hexec hb hE.st hS h1 rfl hdg kk
theorem zQald (hexec : p.tables.exec = Jvm.exec) (hb : c.code = cc) (hK : va_K D cl tys s) (hP : va_P D cl ws H) (q0 t0 : Nat) {cB : ClassId} {C : String} {n : Nat} {f : Nat → Option Nat} (ha : ws[q0]? = some (a, .inl (cB, n, .inr (.inr (.inr (.inr (fun k => (f k).map ad))))))) (ht : tys[t0]? = some (cB, .object C)) {i : Int32} {k : Nat} (hin : vp_in i n ∧ i.toNatClampNeg = k) (hdg : decode cc pc = .ok (.aaload, 1))
    (kk : W p l e R s m args below meth c H locs cells slots Q (F0 m (pc + 1) ls (va_re ad (f k) :: rest))) : W p l e R s m args below meth c H locs cells slots Q (F0 m pc ls (.int i :: .ref a :: rest)) := by
  obtain ⟨h1, rfl⟩ := hin
  exact va_aldq hexec hb hK hP q0 t0 ha ht h1 hdg kk
theorem xRecvV {ad : Nat → Nat} {A : Nat → Prop} {s : State} {H : Heap} {locs : List Loc} {i : Nat} (hE : xVb ad A s s.heap) (hi : i < 9) (hS : va_S A s.heap H locs) : ∃ cell : Cell, H[ad i]? = some cell ∧ cell.vm.isStatics = false ∧ s.vm.findClass "TheatreLedger$Verb" = some cell.cls := by
  obtain ⟨cell, h1, h2, h3, h4⟩ := (hE i hi).1
  exact ⟨cell, by rw [hS.2.1 _ (Array.getElem?_eq_some_iff.mp h1).1 h4]; exact h1, h2, h3⟩
theorem xVany (hE : xE ad A s s.heap) (hS : va_S A s.heap H locs) {j k : Nat} (hj : j < 9 ∧ k = 10 + j) : va_Any "TheatreLedger$Verb" s H (ad k) := by
  obtain ⟨h1, rfl⟩ := hj
  obtain ⟨cell, e1, e2, e3⟩ := xRecvV (ad := fun i => ad (10 + i)) hE.2.1 (i := j) h1 hS
  obtain ⟨kC, hkC, -⟩ := Vm.findClass_spec e3
  exact ⟨cell, e1, e2, ⟨kC, hkC⟩, fun comp h => vb_asgS comp _ h e3⟩
theorem zQast {w2 : (Nat → Option Nat) → va_W} (hexec : p.tables.exec = Jvm.exec) (hb : c.code = cc) (hE : xE ad A s s.heap) (hK : va_K D cl tys s) (hP : va_P D cl ws H) (hD : va_D A ws) (hS : va_S A s.heap H locs) (q0 t0 : Nat) {cB : ClassId} {n : Nat} {f : Nat → Option Nat} (ha : ws[q0]? = some (a, .inl (cB, n, .inr (.inr (.inr (.inr (fun k => (f k).map ad))))))) (ht : tys[t0]? = some (cB, .object "TheatreLedger$Verb")) {i : Int32} {k j v : Nat} (hj : j < 9 ∧ v = 10 + j) (hin : vp_in i n ∧ i.toNatClampNeg = k)
    (hw : ∀ z : Nat → Option Nat, ws.set q0 (a, .inl (cB, n, .inr (.inr (.inr (.inr (fun k => (z k).map ad)))))) = w2 z) (hdg : decode cc pc = .ok (.aastore, 1))
    (kk : ∀ (g : Nat → Option Nat), g = xupq f k (some v) → ∀ (H1 : Heap) (locs1 : List Loc), va_P D cl (w2 g) H1 → va_D A (w2 g) → va_S A s.heap H1 locs1 → W p l e R s m args below meth c H1 locs1 cells slots Q (F0 m (pc + 1) ls rest)) : W p l e R s m args below meth c H locs cells slots Q (F0 m pc ls (.ref (ad v) :: .int i :: .ref a :: rest)) := by
  obtain ⟨h1, rfl⟩ := hin
  have e : va_up (fun k => (f k).map ad) i.toNatClampNeg (some (ad v)) = fun k => (xupq f i.toNatClampNeg (some v) k).map ad := by
    funext q
    simp only [va_up, xupq]
    split <;> rfl
  exact va_astqM hexec hb hK hP hD hS q0 t0 ha ht (xVany hE hS hj) h1 hdg (fun H1 locs1 hP hD hS => kk _ rfl H1 locs1 (by rw [← hw, ← e]; exact hP) (by rw [← hw, ← e]; exact hD) hS)
theorem zAload_n (hexec : p.tables.exec = Jvm.exec) (hb : c.code = cc) {k : Fin 4} {i : Nat} {o : Option Nat} (hdg : decode cc pc = .ok (.aload_n k, 1)) (hi : (k : Nat) = i) (hl : ls[i]? = some (.val (va_re ad o)))
    (kk : W p l e R s m args below meth c H locs cells slots Q (F0 m (pc + 1) ls (va_re ad o :: rest))) : W p l e R s m args below meth c H locs cells slots Q (F0 m pc ls rest) := by
  cases o with
  | none => exact lv_aload_nN hexec hb hdg hi hl kk
  | some x => exact lv_aload_n hexec hb hdg hi hl kk
theorem zAload (hexec : p.tables.exec = Jvm.exec) (hb : c.code = cc) {i : Nat} {o : Option Nat} (hdg : decode cc pc = .ok (.aload i, 2)) (hl : ls[i]? = some (.val (va_re ad o)))
    (kk : W p l e R s m args below meth c H locs cells slots Q (F0 m (pc + 2) ls (va_re ad o :: rest))) : W p l e R s m args below meth c H locs cells slots Q (F0 m pc ls rest) := by
  cases o with
  | none => exact lv_aloadN hexec hb hdg hl kk
  | some x => exact lv_aload hexec hb hdg hl kk
theorem zAstore_n (hexec : p.tables.exec = Jvm.exec) (hb : c.code = cc) {k : Fin 4} {i nL : Nat} {o : Option Nat} {lv lv' : List (Nat × Value)} (hdg : decode cc pc = .ok (.astore_n k, 1)) (hi : (k : Nat) = i) (h : lv_has ls nL lv) (hn : i < nL) (hl : (i, va_re ad o) :: lv.filter (fun q => !(q.1 == i) && !(q.1 + 1 == i && q.2.category == 2)) = lv')
    (kk : ∀ ls' : Array Slot, lv_has ls' nL lv' → W p l e R s m args below meth c H locs cells slots Q (F0 m (pc + 1) ls' rest)) : W p l e R s m args below meth c H locs cells slots Q (F0 m pc ls (va_re ad o :: rest)) := by
  cases o with
  | none => exact lv_astore_nN hexec hb hdg hi h hn hl kk
  | some x => exact lv_astore_n hexec hb hdg hi h hn hl kk
theorem zAstore (hexec : p.tables.exec = Jvm.exec) (hb : c.code = cc) {i nL : Nat} {o : Option Nat} {lv lv' : List (Nat × Value)} (hdg : decode cc pc = .ok (.astore i, 2)) (h : lv_has ls nL lv) (hn : i < nL) (hl : (i, va_re ad o) :: lv.filter (fun q => !(q.1 == i) && !(q.1 + 1 == i && q.2.category == 2)) = lv')
    (kk : ∀ ls' : Array Slot, lv_has ls' nL lv' → W p l e R s m args below meth c H locs cells slots Q (F0 m (pc + 2) ls' rest)) : W p l e R s m args below meth c H locs cells slots Q (F0 m pc ls (va_re ad o :: rest)) := by
  cases o with
  | none => exact lv_astoreN hexec hb hdg h hn hl kk
  | some x => exact lv_astore hexec hb hdg h hn hl kk
theorem zIfnull (hexec : p.tables.exec = Jvm.exec) (hb : c.code = cc) {o : Option Nat} {off : Int} {tgt : Nat} (hdg : decode cc pc = .ok (.ifnull off, 3)) (ht : (pc : Int) + off = (tgt : Int)) (kn : o = none → W p l e R s m args below meth c H locs cells slots Q (F0 m tgt ls rest)) (ks : ∀ x, o = some x → W p l e R s m args below meth c H locs cells slots Q (F0 m (pc + 3) ls rest)) : W p l e R s m args below meth c H locs cells slots Q (F0 m pc ls (va_re ad o :: rest)) := by
  cases o with
  | none => exact lv_ifnullN hexec hb hdg ht (kn rfl)
  | some x => exact lv_ifnull hexec hb hdg (ks x rfl)
theorem zIfnonnull (hexec : p.tables.exec = Jvm.exec) (hb : c.code = cc) {o : Option Nat} {off : Int} {tgt : Nat} (hdg : decode cc pc = .ok (.ifnonnull off, 3)) (ht : (pc : Int) + off = (tgt : Int)) (kn : o = none → W p l e R s m args below meth c H locs cells slots Q (F0 m (pc + 3) ls rest)) (ks : ∀ x, o = some x → W p l e R s m args below meth c H locs cells slots Q (F0 m tgt ls rest)) : W p l e R s m args below meth c H locs cells slots Q (F0 m pc ls (va_re ad o :: rest)) := by
  cases o with
  | none => exact lv_ifnonnullN hexec hb hdg (kn rfl)
  | some x => exact lv_ifnonnull hexec hb hdg ht (ks x rfl)
end ZV
