/-! ===== my own base: words, worlds, one contract form, calls ===== -/
def xW : List Cond := lw_tbl.filter goodWord
theorem xq {w : Cond} (i : Nat) (h : lw_tbl[i]? = some w) (g : goodWord w = true) : w ∈ xW := List.mem_filter.mpr ⟨List.mem_of_getElem? h, g⟩
theorem xqs (ws : List Cond) (ps : List Nat) (hp : ws = ps.filterMap (fun i => lw_tbl[i]?)) (h : ws.all goodWord = true) : ∀ w ∈ ws, w ∈ xW := by
  intro w hw
  have h1 := List.all_eq_true.mp h w hw
  rw [hp] at hw
  obtain ⟨i, -, hi⟩ := List.mem_filterMap.mp hw
  exact xq i hi h1
theorem xG {w : Cond} (h : w ∈ xW) : GoodIn xW (w :: xW) := by
  intro v hv
  rcases List.mem_cons.mp hv with e | hv
  · subst e; exact ⟨h, good_of_word (List.mem_filter.mp h).2⟩
  · exact ⟨hv, good_of_word (List.mem_filter.mp hv).2⟩
/-- the arrays' classes -/
def xT (cA : Nat → ClassId) : List (ClassId × FieldType) := [(cA 0, .int), (cA 1, .char), (cA 2, .long), (cA 3, .boolean), (cA 4, .object "TheatreLedger$Books"), (cA 5, .object "TheatreLedger$Verb")]
def xIn (D : va_G) (cA : Nat → ClassId) (ws : va_W) (sz : Nat) : State → Prop := fun U => U.heap.size = sz ∧ va_P D vwCl ws U.heap ∧ va_K D vwCl (xT cA) U ∧ va_D (fun _ => True) ws
def xAt (D : va_G) (cA : Nat → ClassId) (A : Nat → Prop) (ws : va_W) : State → Prop := fun t => va_P D vwCl ws t.heap ∧ va_K D vwCl (xT cA) t ∧ va_D A ws
def xQ (D : va_G) (cA : Nat → ClassId) (A : Nat → Prop) (ws : va_W) (v : Option Value) : Array Value → State → Outcome → State → Prop := fun _ st oc t => (oc = .returned v ∧ xAt D cA A ws t) ∧ va_F A st t
def xM (l : Launch) (y : MethodName) (bytes : ByteArray) (maxL : Nat) (ret : Option FieldType) (rm : Room) (D : va_G) (cA : Nat → ClassId) (ws : va_W) (sz : Nat) (As : List Value) (v : Option Value) (ws' : va_W) : Prop :=
  Met l y (.code y bytes maxL ret :: xW) rm (va_Pc As (xIn D cA ws sz)) (xQ D cA (va_A ws sz) ws' v) 0 0 (va_A ws sz)
theorem xBlind {As : List Value} {D : va_G} {cA : Nat → ClassId} {ws : va_W} {sz : Nat} : FrameBlind (va_Pc As (xIn D cA ws sz)) := fun a U g mk q => by
  obtain ⟨q0, q1, qP, qK, qD⟩ := q
  exact ⟨q0, q1, qP, va_K.moved (u := U) (U := U.calling g mk a) (Vm.Alike.refl U.vm) qK, qD⟩
section XB
variable {p : Program} {l : Launch} {e : Env} {R : Room} {s : State} {m : MethodId} {args : Array Value} {below : List Frame} {meth : Method} {c : Code} {H : Heap} {locs : List Loc} {cells slots : Nat} {Q : State → Prop}
/-- a body proved by walking -/
theorem xMet {y : MethodName} {bytes : ByteArray} {maxL : Nat} {ret : Option FieldType} {rm : Room} {D : va_G} {cA : Nat → ClassId} {ws : va_W} {sz : Nat} {As : List Value} {v : Option Value} {ws' : va_W}
    (hy : plainName y.cls = true) (hn : (lg_sl As).length ≤ maxL)
    (body : ∀ p e s m below meth c, p.tables.exec = Jvm.exec → c.code = bytes → meth.sig.returnType = ret → meth.locks = false → c.maxLocals = maxL → (∀ w ∈ xW, w.before As.toArray s = true) → s.vm.findClass y.cls = some m.cls →
      meth.name = y.name → va_K D vwCl (xT cA) s → va_P D vwCl ws s.heap → ∀ A, A = va_A ws sz → va_D A ws → va_S A s.heap s.heap [] → (∀ q : Nat, s.heap.size ≤ q → A q) → s.heap.size = sz →
      ∀ ls, lv_has ls maxL (lv_args 0 As) → W p l e rm s m As.toArray below meth c s.heap [] 0 0 (MQ below (xQ D cA A ws' v) As.toArray s 0 0 A) (F0 m 0 ls [])) : xM l y bytes maxL ret rm D cA ws sz As v ws' := by
  refine Met.ofW (cc := bytes) (maxL := maxL) (ret := ret) hy rfl ?_
  intro p e s m args below meth c s₁ B hml hv
  obtain ⟨rfl, hsz, hP, hK, hD0⟩ := hv
  have hts := atoms_spec (ws := .code y bytes maxL ret :: xW) B.pre
  have hl := lv_entry As (n := maxL) hn
  rw [lg_entry_eq]
  generalize (lg_sl As ++ List.replicate (maxL - (lg_sl As).length) Slot.unset).toArray = ls at hl ⊢
  exact body p e s m below meth c B.exec B.bytes B.returns B.notSynchronized hml (fun w h => hts w (List.mem_cons_of_mem _ h)) (findClass_of_methodNamed B.named) (name_of_methodNamed B.named B.method).1 hK hP _ rfl (hD0.self (sz := sz)) va_S.rf (fun q h => Or.inr (by rw [← hsz]; exact h)) hsz ls hl
theorem xCall {D : va_G} {cA : Nat → ClassId} {A0 : Nat → Prop} {H0 : Heap} {ws wc wr w1 w2 : va_W} {v : Option Value} {pc : Nat} {ls : Array Slot} {st0 rest : List Value} {a : Array Value}
    (hr : va_Run p l e R s m args below meth c H locs cells slots 0 0 (F0 m pc ls st0) rest (xQ D cA (va_A wc H.size) w1 v a) (va_A wc H.size))
    (hP : va_P D vwCl ws H) (hD : va_D A0 ws) (hS : va_S A0 H0 H locs) (hA : ∀ q, H0.size ≤ q → A0 q)
    (isC isR pm : List Nat) (hC : isC.map (fun i => ws[i]?) = wc.map some) (hR : isR.map (fun i => ws[i]?) = wr.map some) (hn : va_nd isR = true) (hdis : isR.all (fun i => decide (i ∉ isC)) = true)
    (hpm : pm.map (fun i => (wr ++ w1)[i]?) = w2.map some) (hpn : va_nd pm = true)
    (kk : ∀ (H1 : Heap) (locs1 : List Loc), va_P D vwCl w2 H1 → va_D A0 w2 → va_S A0 H0 H1 locs1 → W p l e R s m args below meth c H1 locs1 cells slots Q (F0 m (pc + 3) ls (v.toList ++ rest))) :
    W p l e R s m args below meth c H locs cells slots Q (F0 m pc ls st0) := by
  intro T hT X
  have hF := va_free (wc := wc) hD hS hA isC hC
  obtain ⟨v', st₀, t, T', L, h0, X', hL, e1, e2, ⟨⟨hv, hP1, -, hD1⟩, hz, hk⟩, st⟩ := hr T hT X
  cases hv
  rw [h0] at hz hk
  have hdis' : ∀ i ∈ isR, i ∉ isC := fun i hi => by simpa using List.all_eq_true.mp hdis i hi
  obtain ⟨hPn, hDn⟩ := va_join (wr := wr) (w1 := w1) hP hD isC isR hC hR hn hdis' (H1 := t.heap) hk hF hP1 hD1
  have hPn2 : va_P D vwCl w2 t.heap := hPn.sub pm (by
    have : ∀ (l : List Nat) (w : va_W), l.map (fun i => (wr ++ w1)[i]?) = w.map some → l.filterMap (fun i => (wr ++ w1)[i]?) = w := by
      intro l
      induction l with
      | nil => intro w h; cases w with | nil => rfl | cons a b => simp at h
      | cons x xs ih =>
        intro w h
        cases w with
        | nil => simp at h
        | cons a b =>
          simp only [List.map_cons, List.cons.injEq] at h
          rw [List.filterMap_cons, h.1]
          simp only [ih b h.2]
    exact this pm w2 hpm)
  have hDn2 : va_D A0 w2 := hDn.sub pm hpn hpm
  obtain ⟨t2, a1, b1⟩ := kk T'.heap (locs ++ L) (by rw [e1]; exact hPn2) hDn2
    ⟨Nat.le_trans hS.1 (by rw [e1]; exact hz), fun q h1 h2 => by rw [e1, hk q (Nat.lt_of_lt_of_le h1 hS.1) (fun z => h2 (hF q z))]; exact hS.2.1 q h1 h2, fun q hq => by
      rcases List.mem_append.mp hq with h | h
      · exact hS.2.2 q h
      · exact hF _ (hL q h)⟩ T' rfl X'
  exact ⟨t2, st t2 a1, b1⟩
end XB
/-- the same world is handed on -/
theorem xId {ws : va_W} : (List.range ws.length).map (fun i => ws[i]?) = ws.map some := by
  apply List.ext_getElem?
  intro i
  simp only [List.getElem?_map]
  by_cases h : i < ws.length
  · rw [List.getElem?_range h]
    simp [List.getElem?_eq_getElem h]
  · rw [List.getElem?_eq_none (by simpa using h), List.getElem?_eq_none (by simpa using h)]
    rfl
section XR
variable {p : Program} {l : Launch} {e : Env} {R : Room} {s : State} {m : MethodId} {args : Array Value} {below : List Frame} {meth : Method} {c : Code} {H : Heap} {locs : List Loc} {cells slots : Nat} {Q : State → Prop}
variable {y : MethodName} {bytes cc : ByteArray} {maxL nL n index : Nat} {ret : Option FieldType} {rm : Room} {own C : String} {b : Addr} {As rest : List Value} {g : JFrame}
  {D : va_G} {cA : Nat → ClassId} {ws wc w1 : va_W} {v : Option Value} {A0 : Nat → Prop}
/-- what a call needs of the callee's name and code -/
def xCd (y : MethodName) (n : Nat) : Bool := decide (y.cls ≠ "java/lang/invoke/MethodHandle") && decide (y.cls ≠ "java/lang/invoke/VarHandle") && decide ((parseMethodDescriptor y.desc).map (fun d => d.parameters.length) = some n)
theorem xCd_of {y : MethodName} {n : Nat} (h : xCd y n = true) : y.cls ≠ "java/lang/invoke/MethodHandle" ∧ y.cls ≠ "java/lang/invoke/VarHandle" ∧ (parseMethodDescriptor y.desc).map (fun d => d.parameters.length) = some n := by
  simp only [xCd, Bool.and_eq_true, decide_eq_true_eq] at h
  exact ⟨h.1.1, h.1.2, h.2⟩
theorem xRunV (S : CallFix p m c cc nL s args xW own) (hM : xM l y bytes maxL ret rm D cA wc H.size (.ref b :: As) v w1)
    (hco : Cond.code y bytes maxL ret ∈ xW) (hml : Cond.methodLink own index y ∈ xW) (hin : Cond.instanceMethod y ∈ xW) (hse : Cond.selects C y y ∈ xW) (hini : Cond.initialized y.cls ∈ xW) (hd : xCd y n = true)
    (hR : (rm.cells == 0 && rm.slots == 0 && Nat.ble (rm.frames + 1) R.frames && Nat.ble (8 + (maxL + 11) + rm.locals) R.locals) = true)
    (hK : va_K D vwCl (xT cA) s) (hP : va_P D vwCl ws H) (hD : va_D A0 ws) (isC : List Nat) (hC : isC.map (fun i => ws[i]?) = wc.map some) (hCn : va_nd isC = true)
    {q0 ci : Nat} {q : vw_C} {fs : List Value} (hb0 : wc[q0]? = some (b, .inr (ci, fs))) (hq : vwCl[ci]? = some q) (hqC : q.1 = C)
    (hg : g.method = m) (hn : As.length = n) (hsize : g.locals.size = nL) (hstack : g.stack = As.reverse ++ .ref b :: rest) (hW : 2 * g.monitorRoom + (rest.map fun v => v.category).sum ≤ 8) (hdg : decode cc g.pc = .ok (.invokevirtual index, 3)) (hcs : cells ≤ R.cells ∧ slots ≤ R.slots) :
    va_Run p l e R s m args below meth c H locs cells slots 0 0 g rest (xQ D cA (va_A wc H.size) w1 v (Value.ref b :: As).toArray) (va_A wc H.size) := by
  simp only [Bool.and_eq_true, beq_iff_eq, Nat.ble_eq] at hR
  have hts := S.2.2.2.2
  have hDc : va_D A0 wc := hD.sub isC hCn hC
  have hPc : va_P D vwCl wc H := fun k q hk => by
    have h1 : (isC.map (fun i => ws[i]?))[k]? = some (some q) := by rw [hC, List.getElem?_map, hk]; rfl
    rw [List.getElem?_map] at h1
    cases hi : isC[k]? with
    | none => rw [hi] at h1; cases h1
    | some i => rw [hi] at h1; exact hP i q (Option.some.inj h1)
  subst hqC
  exact va_runV S hM ⟨callB_of n hts (xG hco) rfl hR.1.1.1 hR.1.1.2 (hts _ hini) (hts _ hml) (xCd_of hd) ⟨hR.1.2, hR.2⟩, hts _ hin, hts _ hse⟩
    ⟨xBlind, va_recv hK hPc hq hb0, fun U hU hW => ⟨rfl, by rw [hU], by rw [hU]; exact hPc, va_K.moved hW.alike hK, hDc.weaken (fun _ _ _ _ => trivial)⟩⟩ hg hn hsize hstack hW hdg hcs
theorem xRunS (S : CallFix p m c cc nL s args xW own) (hM : xM l y bytes maxL ret rm D cA wc H.size As v w1)
    (hco : Cond.code y bytes maxL ret ∈ xW) (hml : Cond.methodLink own index y ∈ xW) (hst : Cond.static y ∈ xW) (hini : Cond.initialized y.cls ∈ xW) (hd : xCd y n = true)
    (hR : (rm.cells == 0 && rm.slots == 0 && Nat.ble (rm.frames + 1) R.frames && Nat.ble (8 + (maxL + 11) + rm.locals) R.locals) = true)
    (hK : va_K D vwCl (xT cA) s) (hP : va_P D vwCl ws H) (hD : va_D A0 ws) (isC : List Nat) (hC : isC.map (fun i => ws[i]?) = wc.map some) (hCn : va_nd isC = true)
    (hg : g.method = m) (hn : As.length = n) (hsize : g.locals.size = nL) (hstack : g.stack = As.reverse ++ rest) (hW : 2 * g.monitorRoom + (rest.map fun v => v.category).sum ≤ 8) (hdg : decode cc g.pc = .ok (.invokestatic index, 3)) (hcs : cells ≤ R.cells ∧ slots ≤ R.slots) :
    va_Run p l e R s m args below meth c H locs cells slots 0 0 g rest (xQ D cA (va_A wc H.size) w1 v As.toArray) (va_A wc H.size) := by
  simp only [Bool.and_eq_true, beq_iff_eq, Nat.ble_eq] at hR
  have hts := S.2.2.2.2
  have hDc : va_D A0 wc := hD.sub isC hCn hC
  have hPc : va_P D vwCl wc H := fun k q hk => by
    have h1 : (isC.map (fun i => ws[i]?))[k]? = some (some q) := by rw [hC, List.getElem?_map, hk]; rfl
    rw [List.getElem?_map] at h1
    cases hi : isC[k]? with
    | none => rw [hi] at h1; cases h1
    | some i => rw [hi] at h1; exact hP i q (Option.some.inj h1)
  exact va_runS S hM ⟨callB_of n hts (xG hco) rfl hR.1.1.1 hR.1.1.2 (hts _ hini) (hts _ hml) (xCd_of hd) ⟨hR.1.2, hR.2⟩, hts _ hst⟩
    ⟨xBlind, fun U hU hW => ⟨rfl, by rw [hU], by rw [hU]; exact hPc, va_K.moved hW.alike hK, hDc.weaken (fun _ _ _ _ => trivial)⟩⟩ hg hn hsize hstack hW hdg hcs
end XR
/-! functional forms: what a walk's hypothesis h : f .. = some o gives at each instruction -/
section XF
variable {α β γ : Type}
def xrd (n : Nat) (i : Int32) (K : Nat → Option γ) : Option γ := if (0 ≤ i.toInt ∧ i.toInt < n) then K i.toNatClampNeg else none
def xnz (b : Bool) (K : Option γ) : Option γ := if b = true then K else none
def xlet (a : α) (K : α → γ) : γ := K a
def xcall (a : Option α) (K : α → Option γ) : Option γ := match a with
  | some x => K x
  | none => none
def xjoin (T : α) (B : α → γ) : γ := B T
def xloop (B : (α → Option γ) → α → Option γ) : Nat → α → Option γ
  | 0, _ => none
  | n + 1, st => B (xloop B n) st
theorem x_rd {n : Nat} {i : Int32} {K : Nat → Option γ} {o : γ} (h : xrd n i K = some o) : ∃ k, (vp_in i n ∧ i.toNatClampNeg = k) ∧ K k = some o := by
  unfold xrd at h
  split at h
  · rename_i hc; exact ⟨_, ⟨vp_in_iff.mpr hc, rfl⟩, h⟩
  · cases h
theorem x_nz {b : Bool} {K : Option γ} {o : γ} (h : xnz b K = some o) : b = true ∧ K = some o := by
  unfold xnz at h
  split at h
  · rename_i hc; exact ⟨hc, h⟩
  · cases h
theorem x_let {a y : α} {K : α → γ} {o : γ} (h : xlet a K = o) (e : y = a) : K y = o := by subst e; exact h
theorem x_call {a : Option α} {K : α → Option γ} {o : γ} (h : xcall a K = some o) : ∃ x, a = some x ∧ K x = some o := by
  unfold xcall at h
  split at h
  · exact ⟨_, rfl, h⟩
  · cases h
theorem x_join {T : α} {B : α → γ} {o : γ} (h : xjoin T B = o) : ∃ J, J = T ∧ B J = o := ⟨T, rfl, h⟩
theorem x_loop {B : (α → Option γ) → α → Option γ} {n : Nat} {st : α} {o : γ} (h : xloop B (n + 1) st = some o) : B (xloop B n) st = some o := h
theorem x_t {P : Prop} [Decidable P] {A B : γ} {o : γ} (h : (if P then A else B) = o) (hc : P) : A = o := by rw [if_pos hc] at h; exact h
theorem x_f {P : Prop} [Decidable P] {A B : γ} {o : γ} (h : (if P then A else B) = o) (hc : ¬ P) : B = o := by rw [if_neg hc] at h; exact h
theorem x_nf {P : Prop} (h : ¬ ¬ P) : P := Classical.not_not.mp h
theorem x_lit {i : Int32} {n k : Nat} (h : (decide (0 ≤ i.toInt) && decide (i.toInt < n) && decide (i.toNatClampNeg = k)) = true) : vp_in i n ∧ i.toNatClampNeg = k := by
  simp only [Bool.and_eq_true, decide_eq_true_eq] at h
  exact ⟨vp_in_iff.mpr h.1, h.2⟩
end XF
