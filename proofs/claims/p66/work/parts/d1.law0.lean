/-! ===== the law's methods: what stands around them, their contract, their calls ===== -/
/-- where the law's texts stand -/
def tR (tt : Nat → Nat) (U : State) : Prop := ∀ i, i < 19 → vk_R RL (tPl.getD i (0, "")).1 (tPl.getD i (0, "")).2 (tt i) U
theorem tR.warm {tt : Nat → Nat} {s U : State} (hW : s.WarmedH U.vm) (h : tR tt s) : tR tt U := fun i hi => (h i hi).warm hW
theorem tR.same {tt : Nat → Nat} {s U : State} (hv : s.vm = U.vm) (h : tR tt s) : tR tt U := fun i hi => (h i hi).same hv.symm
def LQ (tt : Nat → Nat) (U : State) : Prop := xN U ∧ xK U ∧ tR tt U
def LE (ad an tt : Nat → Nat) (A : Nat → Prop) (U : State) (H : Heap) : Prop := xE ad A U H ∧ xV A U H ∧ nE an A U H ∧ tE tt A U H
theorem LQ.warm {tt : Nat → Nat} {s U : State} (hW : s.WarmedH U.vm) (h : LQ tt s) : LQ tt U := ⟨h.1.warm hW, h.2.1.warm hW, h.2.2.warm hW⟩
theorem LQ.same {tt : Nat → Nat} {s U : State} (hv : s.vm = U.vm) (h : LQ tt s) : LQ tt U := ⟨h.1.same hv, h.2.1.same hv, h.2.2.same hv⟩
theorem LE.same {ad an tt : Nat → Nat} {A : Nat → Prop} {s U : State} {H : Heap} (hv : s.vm = U.vm) (h : LE ad an tt A s H) : LE ad an tt A U H := ⟨h.1.moved (by rw [hv]; exact Vm.Alike.refl _), h.2.1.same hv, h.2.2.1.same hv, h.2.2.2.moved (by rw [hv]; exact Vm.Alike.refl _)⟩
theorem LE.pass {ad an tt : Nat → Nat} {A0 B : Nat → Prop} {s U : State} {H : Heap} {locs : List Loc} (h : LE ad an tt A0 s s.heap) (hS : va_S A0 s.heap H locs) (hB : ∀ q, B q → A0 q) (hU : U.heap = H) (hW : s.WarmedH U.vm) : LE ad an tt B U U.heap := ⟨h.1.pass hS hB hU hW, h.2.1.pass hS hB hU hW, h.2.2.1.pass hS hB hU hW, h.2.2.2.pass hS hB hU hW⟩
/-- the script, where one is read: its cell is old and stays -/
def sX (b L : Nat) (xs : Nat → Int32) (sz : Nat) (U : State) : Prop := va_X b L xs U U.heap ∧ b < sz
def lIn (D : va_G) (cA : Nat → ClassId) (ad an tt : Nat → Nat) (ex : State → Prop) (ws : va_W) (sz : Nat) : State → Prop := fun U => xIn D cA ws sz U ∧ LQ tt U ∧ LE ad an tt (va_A ws sz) U U.heap ∧ ex U
def lQ {α : Type} (D : va_G) (cA : Nat → ClassId) (A : Nat → Prop) (v : α → Option Value) (px : α → Prop) (F : α → va_W) : Array Value → State → Outcome → State → Prop := fun _ st oc t => (∃ u, oc = .returned (v u) ∧ px u ∧ xAt D cA A (F u) t) ∧ va_F A st t
def exOk (ex : State → Prop) : Prop := ∀ U (g : JFrame) mk a, ex U → ex (U.calling g mk a)
def lM {α : Type} (l : Launch) (y : MethodName) (w0 : Cond) (rm : Room) (D : va_G) (cA : Nat → ClassId) (ad an tt : Nat → Nat) (ex : State → Prop) (ws : va_W) (sz : Nat) (As : List Value) (v : α → Option Value) (px : α → Prop) (F : α → va_W) (mc ms : Nat) : Prop :=
  Met l y (w0 :: xW) rm (va_Pc As (lIn D cA ad an tt ex ws sz)) (lQ D cA (va_A ws sz) v px F) mc ms (va_A ws sz)
theorem exT : exOk (fun _ => True) := fun _ _ _ _ _ => trivial
theorem exX {b L : Nat} {xs : Nat → Int32} {sz : Nat} : exOk (sX b L xs sz) := fun U g mk a h => ⟨va_X.moved (u := U) (U := U.calling g mk a) (Vm.Alike.refl U.vm) h.1, h.2⟩
theorem lBlind {As : List Value} {D : va_G} {cA : Nat → ClassId} {ad an tt : Nat → Nat} {ex : State → Prop} (he : exOk ex) {ws : va_W} {sz : Nat} : FrameBlind (va_Pc As (lIn D cA ad an tt ex ws sz)) := fun a U g mk q => by
  obtain ⟨q0, ⟨q1, qP, qK, qD⟩, qQ, qE, qx⟩ := q
  exact ⟨q0, ⟨q1, qP, va_K.moved (u := U) (U := U.calling g mk a) (Vm.Alike.refl U.vm) qK, qD⟩, LQ.same (s := U) (U := U.calling g mk a) rfl qQ, LE.same (s := U) (U := U.calling g mk a) rfl qE, he U g mk a qx⟩
section LB
variable {p : Program} {l : Launch} {e : Env} {R : Room} {s : State} {m : MethodId} {args : Array Value} {below : List Frame} {meth : Method} {c : Code} {H : Heap} {locs : List Loc} {cells slots : Nat} {Q : State → Prop}
/-- what a body has at hand -/
def lB (p : Program) (l : Launch) (s : State) (m : MethodId) (As : List Value) (c : Code) (meth : Method) (bytes : ByteArray) (maxL : Nat) (ret : Option FieldType) (D : va_G) (cA : Nat → ClassId) (ad an tt : Nat → Nat) (A : Nat → Prop) : Prop :=
  CallFix p m c bytes maxL s As.toArray xW RL ∧ meth.sig.returnType = ret ∧ meth.locks = false ∧ va_K D vwCl (xT cA) s ∧ (∀ q : Nat, s.heap.size ≤ q → A q) ∧ LQ tt s ∧ LE ad an tt A s s.heap
theorem lMet {α : Type} {y : MethodName} {bytes : ByteArray} {maxL : Nat} {ret : Option FieldType} {rm : Room} {D : va_G} {cA : Nat → ClassId} {ad an tt : Nat → Nat} {ex : State → Prop} {ws : va_W} {sz : Nat} {As : List Value} {v : α → Option Value} {px : α → Prop} {F : α → va_W} {mc ms : Nat}
    (hy : plainName y.cls = true) (hyL : y.cls = RL) (hn : (lg_sl As).length ≤ maxL)
    (body : ∀ p e s m below meth c A, A = va_A ws sz → lB p l s m As c meth bytes maxL ret D cA ad an tt A → va_P D vwCl ws s.heap → va_D A ws → va_S A s.heap s.heap [] → s.heap.size = sz → ex s →
      ∀ ls, lv_has ls maxL (lv_args 0 As) → W p l e rm s m As.toArray below meth c s.heap [] 0 0 (MQ below (lQ D cA A v px F) As.toArray s mc ms A) (F0 m 0 ls [])) : lM l y (.code y bytes maxL ret) rm D cA ad an tt ex ws sz As v px F mc ms := by
  refine Met.ofW (cc := bytes) (maxL := maxL) (ret := ret) hy rfl ?_
  intro p e s m args below meth c s₁ B hml hv
  obtain ⟨rfl, ⟨hsz, hP, hK, hD0⟩, hQ, hE, hx⟩ := hv
  have hts := atoms_spec (ws := .code y bytes maxL ret :: xW) B.pre
  have hl := lv_entry As (n := maxL) hn
  rw [lg_entry_eq]
  generalize (lg_sl As ++ List.replicate (maxL - (lg_sl As).length) Slot.unset).toArray = ls at hl ⊢
  exact body p e s m below meth c _ rfl ⟨⟨B.exec, B.bytes, hml, by rw [← hyL]; exact findClass_of_methodNamed B.named, fun w h => hts w (List.mem_cons_of_mem _ h)⟩, B.returns, B.notSynchronized, hK, fun q h => Or.inr (by rw [← hsz]; exact h), hQ, hE⟩ hP (hD0.self (sz := sz)) va_S.rf hsz hx ls hl
theorem lMetW {α : Type} {y : MethodName} {bytes : ByteArray} {maxL : Nat} {hh : List (Nat × Nat × Nat × Nat)} {rm : Room} {D : va_G} {cA : Nat → ClassId} {ad an tt : Nat → Nat} {ex : State → Prop} {ws : va_W} {sz : Nat} {As : List Value} {v : α → Option Value} {px : α → Prop} {F : α → va_W} {mc ms : Nat}
    (hy : plainName y.cls = true) (hyL : y.cls = RL) (hn : (lg_sl As).length ≤ maxL)
    (body : ∀ p e s m below meth c A, A = va_A ws sz → lB p l s m As c meth bytes maxL (some .int) D cA ad an tt A → va_P D vwCl ws s.heap → va_D A ws → va_S A s.heap s.heap [] → s.heap.size = sz → ex s → c.exceptionTable.toList = tableOf hh →
      ∀ ls, lv_has ls maxL (lv_args 0 As) → W p l e rm s m As.toArray below meth c s.heap [] 0 0 (MQ below (lQ D cA A v px F) As.toArray s mc ms A) (F0 m 0 ls [])) : lM l y (.codeWith y bytes maxL (some .int) hh) rm D cA ad an tt ex ws sz As v px F mc ms := by
  unfold lM Met
  refine MetFree.of_bodyS (code := bytes) (maxLocals := maxL) (ret := some .int) hy ?_ ?_
  · intro args s m h hn
    obtain ⟨m9, meth, c, hn9, h1, h2, h3, h4, -, h5, h6, -⟩ := Cond.codeWith_spec (atoms_spec (ws := .codeWith y bytes maxL (some .int) hh :: xW) h _ List.mem_cons_self)
    cases hn.symm.trans hn9
    exact ⟨meth, c, h1, h2, h3, h4, h5, h6⟩
  · intro p e s m args below meth c s₁ B hml hv _
    have hh0 : s₁.heap = s.heap := by rw [B.state]; rfl
    obtain ⟨rfl, ⟨hsz, hP, hK, hD0⟩, hQ, hE, hx⟩ := hv
    have hts := atoms_spec (ws := .codeWith y bytes maxL (some .int) hh :: xW) B.pre
    have htab := vx_table (x := y) B (hts _ List.mem_cons_self)
    have hl := lv_entry As (n := maxL) hn
    have hgo : W p l e rm s m As.toArray below meth c s.heap [] 0 0 (MQ below (lQ D cA (va_A ws sz) v px F) As.toArray s mc ms (va_A ws sz)) (entryFrame m As.toArray maxL) := by
      rw [lg_entry_eq]
      generalize (lg_sl As ++ List.replicate (maxL - (lg_sl As).length) Slot.unset).toArray = ls at hl ⊢
      exact body p e s m below meth c _ rfl ⟨⟨B.exec, B.bytes, hml, by rw [← hyL]; exact findClass_of_methodNamed B.named, fun w h => hts w (List.mem_cons_of_mem _ h)⟩, B.returns, B.notSynchronized, hK, fun q h => Or.inr (by rw [← hsz]; exact h), hQ, hE⟩ hP (hD0.self (sz := sz)) va_S.rf hsz hx htab ls hl
    obtain ⟨t, a1, o, b1, b2, b3⟩ := hgo s₁ hh0 (Stand.of_body B)
    exact ⟨t, o, a1, b1, b2, ⟨b3.1, b3.2⟩⟩
end LB
section LR
variable {p : Program} {l : Launch} {e : Env} {R : Room} {s : State} {m : MethodId} {args : Array Value} {below : List Frame} {meth : Method} {c : Code} {H : Heap} {locs : List Loc} {cells slots mc ms : Nat} {Q : State → Prop}
variable {y : MethodName} {bytes cc : ByteArray} {maxL nL n index : Nat} {ret : Option FieldType} {hh : List (Nat × Nat × Nat × Nat)} {rm : Room} {own : String} {As rest : List Value} {g : JFrame} {α : Type} {v : α → Option Value} {px : α → Prop} {F : α → va_W}
  {D : va_G} {cA : Nat → ClassId} {ad an tt : Nat → Nat} {ex : State → Prop} {ws wc : va_W} {A0 : Nat → Prop}
theorem lPre (hQ : LQ tt s) (hE : LE ad an tt A0 s s.heap) (hK : va_K D vwCl (xT cA) s) (hP : va_P D vwCl ws H) (hD : va_D A0 ws) (hS : va_S A0 s.heap H locs) (hA : ∀ q, s.heap.size ≤ q → A0 q) (isC : List Nat) (hC : isC.map (fun i => ws[i]?) = wc.map some) (hCn : va_nd isC = true) (hx : ∀ U : State, U.heap = H → s.WarmedH U.vm → ex U) :
    ∀ U : State, U.heap = H → s.WarmedH U.vm → va_Pc As (lIn D cA ad an tt ex wc H.size) As.toArray U := fun U hU hW => by
  exact ⟨rfl, ⟨by rw [hU], by rw [hU]; exact zCut hP _ hC, va_K.moved hW.alike hK, (hD.sub _ hCn hC).weaken (fun _ _ _ _ => trivial)⟩, hQ.warm hW, hE.pass hS (va_free (wc := wc) hD hS hA isC hC) hU hW, hx U hU hW⟩
theorem lRunS (S : CallFix p m c cc nL s args xW own) (he : exOk ex) (hM9 : lM l y (.code y bytes maxL ret) rm D cA ad an tt ex wc H.size As v px F mc ms)
    (hco : Cond.code y bytes maxL ret ∈ xW) (hml : Cond.methodLink own index y ∈ xW) (hst : Cond.static y ∈ xW) (hini : Cond.initialized y.cls ∈ xW) (hd : xCd y n = true)
    (hR : (rm.cells == mc && rm.slots == ms && Nat.ble (rm.frames + 1) R.frames && Nat.ble (8 + (maxL + 11) + rm.locals) R.locals) = true)
    (hQ : LQ tt s) (hE : LE ad an tt A0 s s.heap) (hS : va_S A0 s.heap H locs) (hA : ∀ q, s.heap.size ≤ q → A0 q)
    (hK : va_K D vwCl (xT cA) s) (hP : va_P D vwCl ws H) (hD : va_D A0 ws) (isC : List Nat) (hC : isC.map (fun i => ws[i]?) = wc.map some) (hCn : va_nd isC = true) (hx : ∀ U : State, U.heap = H → s.WarmedH U.vm → ex U)
    (hg : g.method = m) (hn : As.length = n) (hsize : g.locals.size = nL) (hstack : g.stack = As.reverse ++ rest) (hW : 2 * g.monitorRoom + (rest.map fun v => v.category).sum ≤ 8) (hdg : decode cc g.pc = .ok (.invokestatic index, 3)) (hcs : cells + mc ≤ R.cells ∧ slots + ms ≤ R.slots) :
    va_Run p l e R s m args below meth c H locs cells slots mc ms g rest (lQ D cA (va_A wc H.size) v px F As.toArray) (va_A wc H.size) := by
  simp only [Bool.and_eq_true, beq_iff_eq, Nat.ble_eq] at hR
  have hts := S.2.2.2.2
  exact va_runS S hM9 ⟨callB_of n hts (xG hco) rfl hR.1.1.1 hR.1.1.2 (hts _ hini) (hts _ hml) (xCd_of hd) ⟨hR.1.2, hR.2⟩, hts _ hst⟩ ⟨lBlind he, lPre hQ hE hK hP hD hS hA isC hC hCn hx⟩ hg hn hsize hstack hW hdg hcs
theorem lRunSW (S : CallFix p m c cc nL s args xW own) (he : exOk ex) (hM9 : lM l y (.codeWith y bytes maxL (some .int) hh) rm D cA ad an tt ex wc H.size As v px F mc ms)
    (hco : Cond.codeWith y bytes maxL (some .int) hh ∈ xW) (hml : Cond.methodLink own index y ∈ xW) (hst : Cond.static y ∈ xW) (hini : Cond.initialized y.cls ∈ xW) (hd : xCd y n = true)
    (hR : (rm.cells == mc && rm.slots == ms && Nat.ble (rm.frames + 1) R.frames && Nat.ble (8 + (maxL + 11) + rm.locals) R.locals) = true)
    (hQ : LQ tt s) (hE : LE ad an tt A0 s s.heap) (hS : va_S A0 s.heap H locs) (hA : ∀ q, s.heap.size ≤ q → A0 q)
    (hK : va_K D vwCl (xT cA) s) (hP : va_P D vwCl ws H) (hD : va_D A0 ws) (isC : List Nat) (hC : isC.map (fun i => ws[i]?) = wc.map some) (hCn : va_nd isC = true) (hx : ∀ U : State, U.heap = H → s.WarmedH U.vm → ex U)
    (hg : g.method = m) (hn : As.length = n) (hsize : g.locals.size = nL) (hstack : g.stack = As.reverse ++ rest) (hW : 2 * g.monitorRoom + (rest.map fun v => v.category).sum ≤ 8) (hdg : decode cc g.pc = .ok (.invokestatic index, 3)) (hcs : cells + mc ≤ R.cells ∧ slots + ms ≤ R.slots) :
    va_Run p l e R s m args below meth c H locs cells slots mc ms g rest (lQ D cA (va_A wc H.size) v px F As.toArray) (va_A wc H.size) := by
  simp only [Bool.and_eq_true, beq_iff_eq, Nat.ble_eq] at hR
  have hts := S.2.2.2.2
  have cb : vx_CSW R s args own index y bytes maxL (some .int) hh (.codeWith y bytes maxL (some .int) hh :: xW) rm mc ms n := by
    refine ⟨⟨hR.1.1.1, hR.1.1.2, hR.1.2, hR.2, ?_, List.mem_cons_self⟩, hts _ hco, hts _ hini, ?_, ?_, hts _ hml, hts _ hst⟩
    · exact pay_in hts (xG hco)
    · have := xCd_of hd
      exact ⟨this.1, this.2.1⟩
    · intro sig h
      have := (xCd_of hd).2.2
      rw [h] at this
      exact (Option.some.inj this).symm
  exact vx_runSW S hM9 cb ⟨lBlind he, lPre hQ hE hK hP hD hS hA isC hC hCn hx⟩ hg hn hsize hstack hW hdg hcs
/-- behind a call of a method of the law's -/
theorem lCall {H0 : Heap} {pc : Nat} {ls : Array Slot} {st0 : List Value} {a : Array Value}
    (hr : va_Run p l e R s m args below meth c H locs cells slots mc ms (F0 m pc ls st0) rest (lQ D cA (va_A wc H.size) v px F a) (va_A wc H.size))
    (hP : va_P D vwCl ws H) (hD : va_D A0 ws) (hS : va_S A0 H0 H locs) (hA : ∀ q, H0.size ≤ q → A0 q)
    (isC : List Nat) (hC : isC.map (fun i => ws[i]?) = wc.map some) (w2 : α → va_W) (ha : ∀ u, px u → (F u).map Prod.fst = wc.map Prod.fst)
    (h2 : ∀ u, px u → ∀ (i : Nat) (q : Nat × va_E), (w2 u)[i]? = some q → (i ∉ isC ∧ ws[i]? = some q) ∨ ∃ k : Nat, isC[k]? = some i ∧ (F u)[k]? = some q)
    (kk : ∀ u, px u → ∀ (H1 : Heap) (locs1 : List Loc), va_P D vwCl (w2 u) H1 → va_D A0 (w2 u) → va_S A0 H0 H1 locs1 → W p l e R s m args below meth c H1 locs1 (cells + mc) (slots + ms) Q (F0 m (pc + 3) ls ((v u).toList ++ rest))) :
    W p l e R s m args below meth c H locs cells slots Q (F0 m pc ls st0) := by
  intro T hT X
  have hF := va_free (wc := wc) hD hS hA isC hC
  obtain ⟨v', st₀, t, T', L, h0, X', hL, e1, e2, ⟨⟨u, hv, hpx, hP1, -, hD1⟩, hz, hk⟩, st⟩ := hr T hT X
  cases hv
  rw [h0] at hz hk
  obtain ⟨hPn, hDn⟩ := xJoinP hP hD isC hC (ha u hpx) (h2 u hpx) hk hP1
  obtain ⟨t2, a1, b1⟩ := kk u hpx T'.heap (locs ++ L) (by rw [e1]; exact hPn) hDn
    ⟨Nat.le_trans hS.1 (by rw [e1]; exact hz), fun q h1 h2 => by rw [e1, hk q (Nat.lt_of_lt_of_le h1 hS.1) (fun z => h2 (hF q z))]; exact hS.2.1 q h1 h2, fun q hq => by
      rcases List.mem_append.mp hq with h | h
      · exact hS.2.2 q h
      · exact hF _ (hL q h)⟩ T' rfl X'
  exact ⟨t2, st t2 a1, b1⟩
/-- behind a call that makes things: what it made stands behind the rest -/
theorem lCallN {H0 : Heap} {pc : Nat} {ls : Array Slot} {st0 : List Value} {a : Array Value}
    (hr : va_Run p l e R s m args below meth c H locs cells slots mc ms (F0 m pc ls st0) rest (lQ D cA (va_A [] H.size) v px F a) (va_A [] H.size))
    (hP : va_P D vwCl ws H) (hD : va_D A0 ws) (hS : va_S A0 H0 H locs) (hA : ∀ q, H0.size ≤ q → A0 q)
    (kk : ∀ u, px u → ∀ (H1 : Heap) (locs1 : List Loc), va_P D vwCl (ws ++ F u) H1 → va_D A0 (ws ++ F u) → va_S A0 H0 H1 locs1 → W p l e R s m args below meth c H1 locs1 (cells + mc) (slots + ms) Q (F0 m (pc + 3) ls ((v u).toList ++ rest))) :
    W p l e R s m args below meth c H locs cells slots Q (F0 m pc ls st0) := by
  intro T hT X
  have hC : ([] : List Nat).map (fun i => ws[i]?) = ([] : va_W).map some := rfl
  have hF := va_free (wc := []) hD hS hA [] hC
  obtain ⟨v', st₀, t, T', L, h0, X', hL, e1, e2, ⟨⟨u, hv, hpx, hP1, -, hD1⟩, hz, hk⟩, st⟩ := hr T hT X
  cases hv
  rw [h0] at hz hk
  obtain ⟨hPn, hDn⟩ := va_join (wr := ws) (w1 := F u) hP hD [] (List.range ws.length) hC xId (nd_of _ List.nodup_range) (fun _ _ h => nomatch h) (H1 := t.heap) hk hF hP1 hD1
  obtain ⟨t2, a1, b1⟩ := kk u hpx T'.heap (locs ++ L) (by rw [e1]; exact hPn) hDn
    ⟨Nat.le_trans hS.1 (by rw [e1]; exact hz), fun q h1 h2 => by rw [e1, hk q (Nat.lt_of_lt_of_le h1 hS.1) (fun z => h2 (hF q z))]; exact hS.2.1 q h1 h2, fun q hq => by
      rcases List.mem_append.mp hq with h | h
      · exact hS.2.2 q h
      · exact hF _ (hL q h)⟩ T' rfl X'
  exact ⟨t2, st t2 a1, b1⟩
end LR
section LX
variable {p : Program} {l : Launch} {e : Env} {R : Room} {s : State} {m : MethodId} {args : Array Value} {below : List Frame} {meth : Method} {c : Code} {H : Heap} {locs : List Loc} {cells slots mc ms : Nat}
variable {cc : ByteArray} {pc : Nat} {ls : Array Slot} {D : va_G} {cA : Nat → ClassId} {A : Nat → Prop} {α : Type} {px : α → Prop} {F : α → va_W}
/-- ends: an int, a truth value, nothing, a reference -/
theorem lIret {v : Int32} {w : α → Option Value} (u : α) (hv : w u = some (.int v)) (hp : px u) (hx : p.tables.exec = Jvm.exec) (hb : c.code = cc) (hr : meth.sig.returnType = some .int) (hlocks : meth.locks = false) (hP : va_P D vwCl (F u) H) (hK : va_K D vwCl (xT cA) s) (hD : va_D A (F u)) (hS : va_S A s.heap H locs) (hdg : decode cc pc = .ok (.ireturn, 1)) :
    W p l e R s m args below meth c H locs mc ms (MQ below (lQ D cA A w px F) args s mc ms A) (F0 m pc ls [.int v]) :=
  W.iret hx hb hr (fun t ht hW => ⟨⟨u, by rw [hv], hp, by rw [ht]; exact hP, va_K.moved hW.alike hK, hD⟩, hS.F ht⟩) hS.2.2 hdg hlocks
theorem lZret {v : Int32} {ty : FieldType} {w : α → Option Value} (u : α) (hv : w u = some (.int v)) (hp : px u) (hx : p.tables.exec = Jvm.exec) (hb : c.code = cc) (hr : meth.sig.returnType = some ty) (hlocks : meth.locks = false) (hn : narrow ty (.int v) = .int v) (hP : va_P D vwCl (F u) H) (hK : va_K D vwCl (xT cA) s) (hD : va_D A (F u)) (hS : va_S A s.heap H locs) (hdg : decode cc pc = .ok (.ireturn, 1)) :
    W p l e R s m args below meth c H locs mc ms (MQ below (lQ D cA A w px F) args s mc ms A) (F0 m pc ls [.int v]) :=
  W.zret hx hb hr hn (fun t ht hW => ⟨⟨u, by rw [hv], hp, by rw [ht]; exact hP, va_K.moved hW.alike hK, hD⟩, hS.F ht⟩) hS.2.2 hdg hlocks
theorem lVret {w : α → Option Value} (u : α) (hv : w u = none) (hp : px u) (hx : p.tables.exec = Jvm.exec) (hb : c.code = cc) (hr : meth.sig.returnType = none) (hlocks : meth.locks = false) (hP : va_P D vwCl (F u) H) (hK : va_K D vwCl (xT cA) s) (hD : va_D A (F u)) (hS : va_S A s.heap H locs) (hdg : decode cc pc = .ok (.return_, 1)) :
    W p l e R s m args below meth c H locs mc ms (MQ below (lQ D cA A w px F) args s mc ms A) (F0 m pc ls []) :=
  W.vret hx hb hr (fun t ht hW => ⟨⟨u, by rw [hv], hp, by rw [ht]; exact hP, va_K.moved hW.alike hK, hD⟩, hS.F ht⟩) hS.2.2 hdg hlocks
end LX
