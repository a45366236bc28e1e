/-! the texts of the throws -/
def xTx : List (Nat × String) := [(421, "no such account"), (426, "no such entry is kept"), (431, "an argument is out of range"), (436, "the books do not allow this now"), (441, "the cash is too low"), (184, "the account has no parent"), (221, "no such rank"), (231, "cash, costumes and claims have the sum 0"), (448, "no such prompt"), (271, "the number of hours is out of range"), (291, "there are no costumes"), (453, "no such bill is open"), (455, "the amount is out of range"), (314, "no set matches the payment"), (353, "the text is malformed"), (374, "a command failed"), (382, "no command failed"), (401, "no call can be undone"), (413, "no state was saved"), (341, "the input buffer is full"), (238, "no such place"), (397, "no such character of the output"), (380, "no text was malformed")]
/-! members that may throw: the contract, its calls, its ends -/
def xEx : Nat → String
  | 1 => "java/lang/IndexOutOfBoundsException"
  | 2 => "java/util/NoSuchElementException"
  | 3 => "java/lang/IllegalArgumentException"
  | 4 => "java/lang/IllegalStateException"
  | 5 => "java/lang/UnsupportedOperationException"
  | _ => "java/lang/ArithmeticException"
def xNm : List String := ["java/lang/RuntimeException", "java/lang/Exception"]
def vQc (D : va_G) (cA : Nat → ClassId) (A : Nat → Prop) (x : Nat) (ws : va_W) (v : Option Value) : Array Value → State → Outcome → State → Prop := fun a st o t => x = 0 ∧ xQ D cA A ws v a st o t
def vXc (D : va_G) (cA : Nat → ClassId) (A : Nat → Prop) (x : Nat) (ws : va_W) : String → State → State → Prop := fun E st t => (x ≠ 0 ∧ E = xEx x) ∧ xAt D cA A ws t ∧ va_F A st t
def xV (A : Nat → Prop) (U : State) (H : Heap) : Prop := (vx_Zq Bundle.tN "UNASSIGNED_STACK" Bundle.steD A U H ∧ vx_Zq Bundle.tN "SUPPRESSED_SENTINEL" Bundle.listD A U H) ∧ ∀ t ∈ xTx, ∃ a, vk_R "TheatreLedger" t.1 t.2 a U
theorem xV.kept {A : Nat → Prop} {U : State} {H H1 : Heap} (h : xV A U H) (hq : ∀ a : Nat, a < H.size → ¬ A a → H1[a]? = H[a]?) : xV A U H1 := ⟨⟨h.1.1.kept hq, h.1.2.kept hq⟩, h.2⟩
theorem xV.narrow {A B : Nat → Prop} {U : State} {H : Heap} (h : xV A U H) (hAB : ∀ q, B q → A q) : xV B U H := ⟨⟨h.1.1.narrow hAB, h.1.2.narrow hAB⟩, h.2⟩
theorem xV.warm {A : Nat → Prop} {s U : State} {H : Heap} (hW : s.WarmedH U.vm) (h : xV A s H) : xV A U H := ⟨⟨h.1.1.moved hW.alike, h.1.2.moved hW.alike⟩, fun t ht => by obtain ⟨a, e⟩ := h.2 t ht; exact ⟨a, e.warm hW⟩⟩
theorem xV.same {A : Nat → Prop} {s U : State} {H : Heap} (hv : s.vm = U.vm) (h : xV A s H) : xV A U H := ⟨⟨h.1.1.moved (by rw [hv]; exact Vm.Alike.refl _), h.1.2.moved (by rw [hv]; exact Vm.Alike.refl _)⟩, fun t ht => by obtain ⟨a, e⟩ := h.2 t ht; exact ⟨a, e.same hv.symm⟩⟩
theorem xV.pass {A0 B : Nat → Prop} {s U : State} {H : Heap} {locs : List Loc} (h : xV A0 s s.heap) (hS : va_S A0 s.heap H locs) (hB : ∀ q, B q → A0 q) (hU : U.heap = H) (hW : s.WarmedH U.vm) : xV B U U.heap := by
  rw [hU]
  exact ((h.kept (H1 := H) fun a h1 h2 => hS.2.1 a h1 h2).warm hW).narrow hB
def vIn (D : va_G) (cA : Nat → ClassId) (ad : Nat → Nat) (ws : va_W) (sz : Nat) : State → Prop := fun U => zIn D cA ad ws sz U ∧ xV (va_A ws sz) U U.heap
def vM (l : Launch) (y : MethodName) (bytes : ByteArray) (maxL : Nat) (ret : Option FieldType) (rm : Room) (D : va_G) (cA : Nat → ClassId) (ad : Nat → Nat) (ws : va_W) (sz : Nat) (As : List Value) (x : Nat) (v : Option Value) (ws' : va_W) (mc ms : Nat) : Prop :=
  vx_Met l y (.code y bytes maxL ret :: xW) rm (va_Pc As (vIn D cA ad ws sz)) (vQc D cA (va_A ws sz) x ws' v) (vXc D cA (va_A ws sz) x ws') mc ms (va_A ws sz)
theorem vBlind {As : List Value} {D : va_G} {cA : Nat → ClassId} {ad : Nat → Nat} {ws : va_W} {sz : Nat} : FrameBlind (va_Pc As (vIn D cA ad ws sz)) := fun a U g mk q => by
  obtain ⟨q0, ⟨⟨q1, qP, qK, qD⟩, qN, qE⟩, qV⟩ := q
  exact ⟨q0, ⟨⟨q1, qP, va_K.moved (u := U) (U := U.calling g mk a) (Vm.Alike.refl U.vm) qK, qD⟩, xN.same (s := U) (U := U.calling g mk a) rfl qN, xE.moved (u := U) (U := U.calling g mk a) (Vm.Alike.refl U.vm) qE⟩, xV.same (s := U) (U := U.calling g mk a) rfl qV⟩
section VB
variable {p : Program} {l : Launch} {e : Env} {R : Room} {s : State} {m : MethodId} {args : Array Value} {below : List Frame} {meth : Method} {c : Code} {H : Heap} {locs : List Loc} {cells slots : Nat} {Q : State → Prop}
theorem vMet {y : MethodName} {bytes : ByteArray} {maxL : Nat} {ret : Option FieldType} {rm : Room} {D : va_G} {cA : Nat → ClassId} {ad : Nat → Nat} {ws : va_W} {sz : Nat} {As : List Value} {x : Nat} {v : Option Value} {ws' : va_W} {mc ms : Nat}
    (hy : plainName y.cls = true) (hn : (lg_sl As).length ≤ maxL)
    (body : ∀ p e s m below meth c, p.tables.exec = Jvm.exec → c.code = bytes → meth.sig.returnType = ret → meth.locks = false → c.maxLocals = maxL → (∀ w ∈ xW, w.before As.toArray s = true) → s.vm.findClass y.cls = some m.cls →
      meth.name = y.name → va_K D vwCl (xT cA) s → va_P D vwCl ws s.heap → ∀ A, A = va_A ws sz → va_D A ws → va_S A s.heap s.heap [] → (∀ q : Nat, s.heap.size ≤ q → A q) → s.heap.size = sz → xN s → xE ad A s s.heap → xV A s s.heap → (∀ x ∈ c.exceptionTable.toList, False) →
      ∀ ls, lv_has ls maxL (lv_args 0 As) → W p l e rm s m As.toArray below meth c s.heap [] 0 0 (vx_MQ below (vQc D cA A x ws' v) (vXc D cA A x ws') As.toArray s mc ms A) (F0 m 0 ls [])) : vM l y bytes maxL ret rm D cA ad ws sz As x v ws' mc ms := by
  refine vx_ofW (cc := bytes) (maxL := maxL) (ret := ret) hy rfl ?_
  intro p e s m args below meth c s₁ B hml htab hv
  obtain ⟨rfl, ⟨⟨hsz, hP, hK, hD0⟩, hN, hE⟩, hV⟩ := hv
  have hts := atoms_spec (ws := .code y bytes maxL ret :: xW) B.pre
  have hl := lv_entry As (n := maxL) hn
  rw [lg_entry_eq]
  generalize (lg_sl As ++ List.replicate (maxL - (lg_sl As).length) Slot.unset).toArray = ls at hl ⊢
  exact body p e s m below meth c B.exec B.bytes B.returns B.notSynchronized hml (fun w h => hts w (List.mem_cons_of_mem _ h)) (findClass_of_methodNamed B.named) (name_of_methodNamed B.named B.method).1 hK hP _ rfl (hD0.self (sz := sz)) va_S.rf (fun q h => Or.inr (by rw [← hsz]; exact h)) hsz hN hE hV htab ls hl
end VB
section VR
variable {p : Program} {l : Launch} {e : Env} {R : Room} {s : State} {m : MethodId} {args : Array Value} {below : List Frame} {meth : Method} {c : Code} {H : Heap} {locs : List Loc} {cells slots mc ms : Nat} {Q : State → Prop}
variable {y : MethodName} {bytes cc : ByteArray} {maxL nL n index : Nat} {ret : Option FieldType} {rm : Room} {own C host : String} {b : Addr} {As rest : List Value} {g : JFrame}
  {D : va_G} {cA : Nat → ClassId} {ad : Nat → Nat} {ws wc w1 w2 : va_W} {x : Nat} {v : Option Value} {A0 : Nat → Prop}
theorem vRunV (S : CallFix p m c cc nL s args xW own) (hM : vM l y bytes maxL ret rm D cA ad wc H.size (.ref b :: As) x v w1 mc ms)
    (hco : Cond.code y bytes maxL ret ∈ xW) (hml : Cond.methodLink own index y ∈ xW) (hin : Cond.instanceMethod y ∈ xW) (hse : Cond.selects C y y ∈ xW) (hini : Cond.initialized y.cls ∈ xW) (hd : xCd y n = true)
    (hR : (rm.cells == mc && rm.slots == ms && Nat.ble (rm.frames + 1) R.frames && Nat.ble (8 + (maxL + 11) + rm.locals) R.locals) = true)
    (hN : xN s) (hE : xE ad A0 s s.heap) (hV : xV A0 s s.heap) (hS : va_S A0 s.heap H locs) (hA : ∀ q, s.heap.size ≤ q → A0 q)
    (hK : va_K D vwCl (xT cA) s) (hP : va_P D vwCl ws H) (hD : va_D A0 ws) (isC : List Nat) (hC : isC.map (fun i => ws[i]?) = wc.map some) (hCn : va_nd isC = true)
    {q0 ci : Nat} {q : vw_C} {fs : List Value} (hb0 : wc[q0]? = some (b, .inr (ci, fs))) (hq : vwCl[ci]? = some q) (hqC : q.1 = C)
    (hg : g.method = m) (hn : As.length = n) (hsize : g.locals.size = nL) (hstack : g.stack = As.reverse ++ .ref b :: rest) (hW : 2 * g.monitorRoom + (rest.map fun v => v.category).sum ≤ 8) (hdg : decode cc g.pc = .ok (.invokevirtual index, 3)) (hcs : cells + mc ≤ R.cells ∧ slots + ms ≤ R.slots) :
    vx_Run p l e R s m args below meth c H locs cells slots mc ms g rest (vQc D cA (va_A wc H.size) x w1 v (Value.ref b :: As).toArray) (vXc D cA (va_A wc H.size) x w1) (va_A wc H.size) := by
  simp only [Bool.and_eq_true, beq_iff_eq, Nat.ble_eq] at hR
  have hts := S.2.2.2.2
  subst hqC
  exact vx_runV S hM ⟨callB_of n hts (xG hco) rfl hR.1.1.1 hR.1.1.2 (hts _ hini) (hts _ hml) (xCd_of hd) ⟨hR.1.2, hR.2⟩, hts _ hin, hts _ hse⟩
    ⟨vBlind, va_recv hK (zCut hP isC hC) hq hb0, fun U hU hW => ⟨rfl, zPre hN hE hK hP hD hS hA isC hC hCn U hU hW, hV.pass hS (va_free (wc := wc) hD hS hA isC hC) hU hW⟩⟩ hg hn hsize hstack hW hdg hcs
theorem vRunS (S : CallFix p m c cc nL s args xW own) (hM : vM l y bytes maxL ret rm D cA ad wc H.size As x v w1 mc ms)
    (hco : Cond.code y bytes maxL ret ∈ xW) (hml : Cond.methodLink own index y ∈ xW) (hst : Cond.static y ∈ xW) (hini : Cond.initialized y.cls ∈ xW) (hd : xCd y n = true)
    (hR : (rm.cells == mc && rm.slots == ms && Nat.ble (rm.frames + 1) R.frames && Nat.ble (8 + (maxL + 11) + rm.locals) R.locals) = true)
    (hN : xN s) (hE : xE ad A0 s s.heap) (hV : xV A0 s s.heap) (hS : va_S A0 s.heap H locs) (hA : ∀ q, s.heap.size ≤ q → A0 q)
    (hK : va_K D vwCl (xT cA) s) (hP : va_P D vwCl ws H) (hD : va_D A0 ws) (isC : List Nat) (hC : isC.map (fun i => ws[i]?) = wc.map some) (hCn : va_nd isC = true)
    (hg : g.method = m) (hn : As.length = n) (hsize : g.locals.size = nL) (hstack : g.stack = As.reverse ++ rest) (hW : 2 * g.monitorRoom + (rest.map fun v => v.category).sum ≤ 8) (hdg : decode cc g.pc = .ok (.invokestatic index, 3)) (hcs : cells + mc ≤ R.cells ∧ slots + ms ≤ R.slots) :
    vx_Run p l e R s m args below meth c H locs cells slots mc ms g rest (vQc D cA (va_A wc H.size) x w1 v As.toArray) (vXc D cA (va_A wc H.size) x w1) (va_A wc H.size) := by
  simp only [Bool.and_eq_true, beq_iff_eq, Nat.ble_eq] at hR
  have hts := S.2.2.2.2
  exact vx_runS S hM ⟨callB_of n hts (xG hco) rfl hR.1.1.1 hR.1.1.2 (hts _ hini) (hts _ hml) (xCd_of hd) ⟨hR.1.2, hR.2⟩, hts _ hst⟩
    ⟨vBlind, fun U hU hW => ⟨rfl, zPre hN hE hK hP hD hS hA isC hC hCn U hU hW, hV.pass hS (va_free (wc := wc) hD hS hA isC hC) hU hW⟩⟩ hg hn hsize hstack hW hdg hcs
theorem vCall {H0 : Heap} {pc : Nat} {ls : Array Slot} {st0 : List Value} {a : Array Value}
    (hr : vx_Run p l e R s m args below meth c H locs cells slots mc ms (F0 m pc ls st0) rest (vQc D cA (va_A wc H.size) x w1 v a) (vXc D cA (va_A wc H.size) x w1) (va_A wc H.size))
    (hP : va_P D vwCl ws H) (hD : va_D A0 ws) (hS : va_S A0 H0 H locs) (hA : ∀ q, H0.size ≤ q → A0 q)
    (isC : List Nat) (hC : isC.map (fun i => ws[i]?) = wc.map some) (ha : w1.map Prod.fst = wc.map Prod.fst)
    (h2 : ∀ (i : Nat) (q : Nat × va_E), w2[i]? = some q → (i ∉ isC ∧ ws[i]? = some q) ∨ ∃ k : Nat, isC[k]? = some i ∧ w1[k]? = some q)
    (kx : x ≠ 0 → ∀ (q9 : Addr) (ce : Cell) (H1 : Heap) (locs1 : List Loc), va_P D vwCl w2 H1 → va_D A0 w2 → va_S A0 H0 H1 locs1 → H1[q9]? = some ce → ce.vm = .none → s.vm.findClass (xEx x) = some ce.cls → vx_W p l e R s m args below meth c H1 locs1 (cells + mc) (slots + ms) Q (F0 m pc ls rest) q9)
    (kk : x = 0 → ∀ (H1 : Heap) (locs1 : List Loc), va_P D vwCl w2 H1 → va_D A0 w2 → va_S A0 H0 H1 locs1 → W p l e R s m args below meth c H1 locs1 (cells + mc) (slots + ms) Q (F0 m (pc + 3) ls (v.toList ++ rest))) :
    W p l e R s m args below meth c H locs cells slots Q (F0 m pc ls st0) := by
  intro T hT X
  have hF := va_free (wc := wc) hD hS hA isC hC
  have hSt : ∀ {T' t : State} {L : List Loc}, T'.heap = t.heap → H.size ≤ t.heap.size → (∀ q : Nat, q < H.size → ¬ va_A wc H.size q → t.heap[q]? = H[q]?) → (∀ q ∈ L, va_A wc H.size q.base) → va_S A0 H0 T'.heap (locs ++ L) := by
    intro T' t L e1 hz hk hL
    exact ⟨Nat.le_trans hS.1 (by rw [e1]; exact hz), fun q h1 h2 => by rw [e1, hk q (Nat.lt_of_lt_of_le h1 hS.1) (fun z => h2 (hF q z))]; exact hS.2.1 q h1 h2, fun q hq => by
      rcases List.mem_append.mp hq with h | h
      · exact hS.2.2 q h
      · exact hF _ (hL q h)⟩
  rcases hr T hT X with ⟨v', st₀, t, T', L, h0, X', hL, e1, e2, ⟨hx, ⟨⟨hv, hP1, -, hD1⟩, hz, hk⟩⟩, st⟩ | ⟨q9, st₀, t, T', L, E, ce, h0, X', hL, e1, e2, ⟨⟨hx, hE⟩, ⟨hP1, -, hD1⟩, hz, hk⟩, hc1, hc2, hc3, st⟩
  · cases hv
    rw [h0] at hz hk
    obtain ⟨hPn, hDn⟩ := xJoinP hP hD isC hC ha h2 hk hP1
    obtain ⟨t2, a1, b1⟩ := kk hx T'.heap (locs ++ L) (by rw [e1]; exact hPn) hDn (hSt e1 hz hk hL) T' rfl X'
    exact ⟨t2, st t2 a1, b1⟩
  · rw [h0] at hz hk
    obtain ⟨hPn, hDn⟩ := xJoinP hP hD isC hC ha h2 hk hP1
    obtain ⟨t2, a1, b1⟩ := kx hx q9 ce T'.heap (locs ++ L) (by rw [e1]; exact hPn) hDn (hSt e1 hz hk hL) (by rw [e1]; exact hc1) hc2 (by rw [← hE]; exact hc3) T' rfl X'
    exact ⟨t2, st.trans a1, b1⟩
end VR
section VE
variable {p : Program} {l : Launch} {e : Env} {R : Room} {s : State} {m : MethodId} {args : Array Value} {below : List Frame} {meth : Method} {c : Code} {H : Heap} {locs : List Loc} {cells slots mc ms : Nat}
variable {cc : ByteArray} {pc x : Nat} {ls : Array Slot} {rest : List Value} {D : va_G} {cA : Nat → ClassId} {ad : Nat → Nat} {A : Nat → Prop} {ws' : va_W} {XC : String → State → State → Prop} {v9 : Option Value}
/-- thrown on: nothing here catches it -/
theorem vOut {q9 : Addr} {ce : Cell} (htab : ∀ x ∈ c.exceptionTable.toList, False) (hlocks : meth.locks = false) (hK : va_K D vwCl (xT cA) s) (hP : va_P D vwCl ws' H) (hD : va_D A ws') (hS : va_S A s.heap H locs) (hx : x ≠ 0) (h1 : H[q9]? = some ce) (h2 : ce.vm = .none) (h3 : s.vm.findClass (xEx x) = some ce.cls) (hc : cells ≤ mc) (hs : slots ≤ ms) :
    vx_W p l e R s m args below meth c H locs cells slots (vx_MQ below (vQc D cA A x ws' v9) (vXc D cA A x ws') args s mc ms A) (F0 m pc ls rest) q9 :=
  vx_out (fun z hz => (htab z hz).elim) hlocks h1 h2 h3 (fun t ht hW => ⟨⟨hx, rfl⟩, ⟨by rw [ht]; exact hP, va_K.moved hW hK, hD⟩, hS.F ht⟩) hS.2.2 hc hs
theorem vIret {v : Int32} (hx : p.tables.exec = Jvm.exec) (hb : c.code = cc) (hr : meth.sig.returnType = some .int) (hlocks : meth.locks = false) (hP : va_P D vwCl ws' H) (hK : va_K D vwCl (xT cA) s) (hD : va_D A ws') (hS : va_S A s.heap H locs) (hdg : decode cc pc = .ok (.ireturn, 1)) :
    W p l e R s m args below meth c H locs mc ms (vx_MQ below (vQc D cA A 0 ws' (some (.int v))) XC args s mc ms A) (F0 m pc ls [.int v]) :=
  vx_ret (W.iret hx hb hr (fun t ht hW => ⟨rfl, ⟨rfl, by rw [ht]; exact hP, va_K.moved hW.alike hK, hD⟩, hS.F ht⟩) hS.2.2 hdg hlocks)
theorem vZret {v : Int32} {ty : FieldType} (hx : p.tables.exec = Jvm.exec) (hb : c.code = cc) (hr : meth.sig.returnType = some ty) (hlocks : meth.locks = false) (hn : narrow ty (.int v) = .int v) (hP : va_P D vwCl ws' H) (hK : va_K D vwCl (xT cA) s) (hD : va_D A ws') (hS : va_S A s.heap H locs) (hdg : decode cc pc = .ok (.ireturn, 1)) :
    W p l e R s m args below meth c H locs mc ms (vx_MQ below (vQc D cA A 0 ws' (some (.int v))) XC args s mc ms A) (F0 m pc ls [.int v]) :=
  vx_ret (W.zret hx hb hr hn (fun t ht hW => ⟨rfl, ⟨rfl, by rw [ht]; exact hP, va_K.moved hW.alike hK, hD⟩, hS.F ht⟩) hS.2.2 hdg hlocks)
theorem vLret {v : Int64} (hx : p.tables.exec = Jvm.exec) (hb : c.code = cc) (hr : meth.sig.returnType = some .long) (hlocks : meth.locks = false) (hP : va_P D vwCl ws' H) (hK : va_K D vwCl (xT cA) s) (hD : va_D A ws') (hS : va_S A s.heap H locs) (hdg : decode cc pc = .ok (.lreturn, 1)) :
    W p l e R s m args below meth c H locs mc ms (vx_MQ below (vQc D cA A 0 ws' (some (.long v))) XC args s mc ms A) (F0 m pc ls [.long v]) :=
  vx_ret (W.lret hx hb hr (fun t ht hW => ⟨rfl, ⟨rfl, by rw [ht]; exact hP, va_K.moved hW.alike hK, hD⟩, hS.F ht⟩) hS.2.2 hdg hlocks)
theorem vVret (hx : p.tables.exec = Jvm.exec) (hb : c.code = cc) (hr : meth.sig.returnType = none) (hlocks : meth.locks = false) (hP : va_P D vwCl ws' H) (hK : va_K D vwCl (xT cA) s) (hD : va_D A ws') (hS : va_S A s.heap H locs) (hdg : decode cc pc = .ok (.return_, 1)) :
    W p l e R s m args below meth c H locs mc ms (vx_MQ below (vQc D cA A 0 ws' none) XC args s mc ms A) (F0 m pc ls []) :=
  vx_ret (W.vret hx hb hr (fun t ht hW => ⟨rfl, ⟨rfl, by rw [ht]; exact hP, va_K.moved hW.alike hK, hD⟩, hS.F ht⟩) hS.2.2 hdg hlocks)
/-- the words of a throw, out of one's own -/
def xThr (L : List Cond) : Bool := L.all fun w => decide (w ∈ tables_1) && (goodWord w || xnest w)
theorem xThr_w {L : List Cond} (h : xThr L = true) (hts : ∀ w ∈ xW, w.before args s = true) (hN : xN s) : ∀ w ∈ L, w.before args s = true := by
  intro w hw
  have h1 := List.all_eq_true.mp h w hw
  simp only [Bool.and_eq_true, decide_eq_true_eq, Bool.or_eq_true] at h1
  obtain ⟨h1, h2 | h2⟩ := h1
  · exact hts w (List.mem_filter.mpr ⟨List.mem_append_right _ h1, h2⟩)
  · exact hN.use (List.mem_filter.mpr ⟨h1, h2⟩)
theorem vThrow {text : String} {ik is ic : Nat} (hexec : p.tables.exec = Jvm.exec) (hb : c.code = cc) (hl : l.stackTraces = false) (hown : s.vm.findClass RX12 = some m.cls) (hts : ∀ w ∈ xW, w.before args s = true) (hN : xN s) (hV : xV A s s.heap) (hA : ∀ q, s.heap.size ≤ q → A q)
    (hcls : Bundle.fit (xEx x) = true) (hlst : xThr (Cond.classLink RX12 ik (xEx x) :: Cond.initialized (xEx x) :: vx_atS RX12 ic (xEx x) xNm) = true) (hgood : (Cond.classLink RX12 ik (xEx x) :: Cond.initialized (xEx x) :: vx_atS RX12 ic (xEx x) xNm).all vx_ot = true) (htx : (is, text) ∈ xTx)
    (hK : va_K D vwCl (xT cA) s) (hP : va_P D vwCl ws' H) (hD : va_D A ws') (hS : va_S A s.heap H locs) (hsize : ls.size = c.maxLocals)
    (d0 : decode cc pc = .ok (.new ik, 3)) (d3 : decode cc (pc + 3) = .ok (.dup, 1)) (d4 : decode cc (pc + 4) = .ok (.ldc is, 2)) (d6 : decode cc (pc + 6) = .ok (.invokespecial ic, 3)) (d9 : decode cc (pc + 9) = .ok (.athrow, 1))
    (htab : ∀ x ∈ c.exceptionTable.toList, False) (hR : (Nat.ble 6 R.frames && Nat.ble ((rest.map fun v => v.category).sum + 82) R.locals && Nat.ble (cells + 1) R.cells && Nat.ble (slots + 6) R.slots) = true) (hlocks : meth.locks = false)
    (hx : x ≠ 0) (hc : cells + 1 ≤ mc) (hs : slots + 6 ≤ ms) :
    W p l e R s m args below meth c H locs cells slots (vx_MQ below (vQc D cA A x ws' v9) (vXc D cA A x ws') args s mc ms A) (F0 m pc ls rest) := by
  simp only [Bool.and_eq_true, Nat.ble_eq] at hR
  obtain ⟨sa, hsa⟩ := hV.2 _ htx
  have hw := xThr_w hlst hts hN
  refine vx_throwS hexec hb hl hown hcls (names := xNm) (by decide) (hw _ List.mem_cons_self) (hw _ (List.mem_cons_of_mem _ List.mem_cons_self)) hsa (fun w h => hw w (List.mem_cons_of_mem _ (List.mem_cons_of_mem _ h))) (fun w h => List.all_eq_true.mp hgood w h) hV.1.1 hV.1.2 hS hsize d0 d3 d4 d6 d9 (fun z hz => (htab z hz).elim)
    (by show 2 + 3 < R.frames; omega) (by show _ + (13 * (2 + 1) + 43) ≤ R.locals; omega) hR.1.2 hR.2 hlocks (fun t hA1 hz hk => ?_) hS.2.2 hc hs
  refine ⟨⟨hx, rfl⟩, ⟨?_, va_K.moved hA1 hK, hD⟩, Nat.le_trans hS.1 hz, fun q h1 h2 => ?_⟩
  · exact hP.kept fun k q hq => hk _ (hP k q hq).lt
  · rw [hk q (Nat.lt_of_lt_of_le h1 hS.1)]; exact hS.2.1 q h1 h2
theorem vThrowW {text : String} {ik is ic : Nat} (hexec : p.tables.exec = Jvm.exec) (hb : c.code = cc) (hl : l.stackTraces = false) (hown : s.vm.findClass RX12 = some m.cls) (hts : ∀ w ∈ xW, w.before args s = true) (hN : xN s) (hV : xV A s s.heap) (hA : ∀ q, s.heap.size ≤ q → A q)
    (hcls : Bundle.fit (xEx x) = true) (hlst : xThr (Cond.classLink RX12 ik (xEx x) :: Cond.initialized (xEx x) :: vx_atS RX12 ic (xEx x) xNm) = true) (hgood : (Cond.classLink RX12 ik (xEx x) :: Cond.initialized (xEx x) :: vx_atS RX12 ic (xEx x) xNm).all vx_ot = true) (htx : (is, text) ∈ xTx)
    (hK : va_K D vwCl (xT cA) s) (hP : va_P D vwCl ws' H) (hD : va_D A ws') (hS : va_S A s.heap H locs) (hsize : ls.size = c.maxLocals)
    (d0 : decode cc pc = .ok (.new ik, 3)) (d3 : decode cc (pc + 3) = .ok (.dup, 1)) (d4 : decode cc (pc + 4) = .ok (.ldc_w is, 3)) (d7 : decode cc (pc + 7) = .ok (.invokespecial ic, 3)) (d10 : decode cc (pc + 10) = .ok (.athrow, 1))
    (htab : ∀ x ∈ c.exceptionTable.toList, False) (hR : (Nat.ble 6 R.frames && Nat.ble ((rest.map fun v => v.category).sum + 82) R.locals && Nat.ble (cells + 1) R.cells && Nat.ble (slots + 6) R.slots) = true) (hlocks : meth.locks = false)
    (hx : x ≠ 0) (hc : cells + 1 ≤ mc) (hs : slots + 6 ≤ ms) :
    W p l e R s m args below meth c H locs cells slots (vx_MQ below (vQc D cA A x ws' v9) (vXc D cA A x ws') args s mc ms A) (F0 m pc ls rest) := by
  simp only [Bool.and_eq_true, Nat.ble_eq] at hR
  obtain ⟨sa, hsa⟩ := hV.2 _ htx
  have hw := xThr_w hlst hts hN
  refine vx_throwSW hexec hb hl hown hcls (names := xNm) (by decide) (hw _ List.mem_cons_self) (hw _ (List.mem_cons_of_mem _ List.mem_cons_self)) hsa (fun w h => hw w (List.mem_cons_of_mem _ (List.mem_cons_of_mem _ h))) (fun w h => List.all_eq_true.mp hgood w h) hV.1.1 hV.1.2 hS hsize d0 d3 d4 d7 d10 (fun z hz => (htab z hz).elim)
    (by show 2 + 3 < R.frames; omega) (by show _ + (13 * (2 + 1) + 43) ≤ R.locals; omega) hR.1.2 hR.2 hlocks (fun t hA1 hz hk => ?_) hS.2.2 hc hs
  refine ⟨⟨hx, rfl⟩, ⟨?_, va_K.moved hA1 hK, hD⟩, Nat.le_trans hS.1 hz, fun q h1 h2 => ?_⟩
  · exact hP.kept fun k q hq => hk _ (hP k q hq).lt
  · rw [hk q (Nat.lt_of_lt_of_le h1 hS.1)]; exact hS.2.1 q h1 h2
end VE

theorem xThr1 : xThr (Cond.classLink RX12 395 (xEx 1) :: Cond.initialized (xEx 1) :: vx_atS RX12 399 (xEx 1) xNm) = true := by decide +kernel
theorem xThg1 : (Cond.classLink RX12 395 (xEx 1) :: Cond.initialized (xEx 1) :: vx_atS RX12 399 (xEx 1) xNm).all vx_ot = true := by decide +kernel
theorem xThr3 : xThr (Cond.classLink RX12 269 (xEx 3) :: Cond.initialized (xEx 3) :: vx_atS RX12 273 (xEx 3) xNm) = true := by decide +kernel
theorem xThg3 : (Cond.classLink RX12 269 (xEx 3) :: Cond.initialized (xEx 3) :: vx_atS RX12 273 (xEx 3) xNm).all vx_ot = true := by decide +kernel
theorem xThr4 : xThr (Cond.classLink RX12 321 (xEx 4) :: Cond.initialized (xEx 4) :: vx_atS RX12 323 (xEx 4) xNm) = true := by decide +kernel
theorem xThg4 : (Cond.classLink RX12 321 (xEx 4) :: Cond.initialized (xEx 4) :: vx_atS RX12 323 (xEx 4) xNm).all vx_ot = true := by decide +kernel
theorem xThr5 : xThr (Cond.classLink RX12 372 (xEx 5) :: Cond.initialized (xEx 5) :: vx_atS RX12 376 (xEx 5) xNm) = true := by decide +kernel
theorem xThg5 : (Cond.classLink RX12 372 (xEx 5) :: Cond.initialized (xEx 5) :: vx_atS RX12 376 (xEx 5) xNm).all vx_ot = true := by decide +kernel
theorem xThr6 : xThr (Cond.classLink RX12 229 (xEx 6) :: Cond.initialized (xEx 6) :: vx_atS RX12 233 (xEx 6) xNm) = true := by decide +kernel
theorem xThg6 : (Cond.classLink RX12 229 (xEx 6) :: Cond.initialized (xEx 6) :: vx_atS RX12 233 (xEx 6) xNm).all vx_ot = true := by decide +kernel
