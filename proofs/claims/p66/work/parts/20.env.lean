/-! ===== the surroundings: nest words, constants of enums, texts; the contract form with them ===== -/
def xnest : Cond → Bool
  | .fieldLinkNest _ _ _ _ _ _ => true
  | .methodLinkNest _ _ _ _ => true
  | .declares _ => true
  | .castable _ _ => true
  | _ => false
def xNw : List Cond := tables_1.filter xnest
theorem xnq {w : Cond} (i : Nat) (h : tables_1[i]? = some w) (g : xnest w = true) : w ∈ xNw := List.mem_filter.mpr ⟨List.mem_of_getElem? h, g⟩
theorem xNw_tab {w : Cond} (h : xnest w = true) : w.onTables = true := by
  cases w <;> first | rfl | exact absurd (show false = true from h) Bool.false_ne_true
theorem xNw_warm {w : Cond} (h : xnest w = true) {s U : State} (hW : s.WarmedH U.vm) (hZ : va_Nw w s) : va_Nw w U := by
  cases w <;> first
    | exact va_Nw.warmF hW hZ
    | exact va_Nw.warmM hW hZ
    | exact va_Nw.warmD hW hZ
    | exact va_Nw.warmC hW hZ
    | exact absurd (show false = true from h) Bool.false_ne_true
/-- the nest words hold -/
def xN (U : State) : Prop := ∀ w ∈ xNw, va_Nw w U
theorem xN.warm {s U : State} (hW : s.WarmedH U.vm) (h : xN s) : xN U := fun w hw => xNw_warm (List.mem_filter.mp hw).2 hW (h w hw)
theorem xN.same {s U : State} (hv : s.vm = U.vm) (h : xN s) : xN U := fun w hw => va_Nw.same (xNw_tab (List.mem_filter.mp hw).2) hv (h w hw)
theorem xN.of {args : Array Value} {s : State} (h : ∀ w ∈ xNw, w.before args s = true) : xN s := fun w hw => va_Nw.of (xNw_tab (List.mem_filter.mp hw).2) (h w hw)
theorem xN.use {args : Array Value} {s : State} (h : xN s) {w : Cond} (hw : w ∈ xNw) : w.before args s = true := va_Nw.use (xNw_tab (List.mem_filter.mp hw).2) (h w hw)
/-! the constants: codes 0-5 the faults, 10-18 the verbs, 30 the row of verbs, 31 the switch row, 40-54 texts (60-74 their bytes) -/
def xFn : List String := ["NONE", "NO_INDEX", "NO_ENTRY", "OUT_OF_RANGE", "WRONG_STATE", "TOO_DEAR"]
def xVn : List String := ["POST", "BACK", "OPEN", "BUY", "SELL", "BILL", "PAY", "WAIT", "CURTAIN"]
def xTxt : List (List Int32) := [[112, 111, 115, 116], [98, 97, 99, 107], [111, 112, 101, 110], [98, 117, 121], [115, 101, 108, 108], [98, 105, 108, 108], [112, 97, 121], [119, 97, 105, 116], [99, 117, 114, 116, 97, 105, 110], [100, 100, 116], [116], [107, 68], [100, 116], [68], []]
def xTln : List Nat := xTxt.map List.length
/-- which text is the form of a verb -/
def xForm : List Nat := [9, 10, 11, 12, 12, 10, 10, 13, 14]
/-- the verbs, as objects with their ordinals -/
def xVb (ad : Nat → Nat) (A : Nat → Prop) (U : State) (H : Heap) : Prop := ∀ i, i < 9 → va_O "TheatreLedger$Verb" (ad i) A U H ∧ va_OF "java/lang/Enum" "ordinal" "I" (.int (([0, 1, 2, 3, 4, 5, 6, 7, 8] : List Int32).getD i 0)) (ad i) A U H
def xE (ad : Nat → Nat) (A : Nat → Prop) (U : State) (H : Heap) : Prop :=
  va_En "TheatreLedger$Fault" "LTheatreLedger$Fault;" xFn [] ad A U H ∧
  xVb (fun i => ad (10 + i)) A U H ∧
  (∀ j, j < 9 → va_OF "TheatreLedger$Verb" "word" "Ljava/lang/String;" (.ref (ad (40 + j))) (ad (10 + j)) A U H ∧ va_OF "TheatreLedger$Verb" "form" "Ljava/lang/String;" (.ref (ad (40 + xForm.getD j 0))) (ad (10 + j)) A U H) ∧
  (va_Z "TheatreLedger" "VERBS" "[LTheatreLedger$Verb;" (.ref (ad 30)) A U H ∧ va_T (.object "TheatreLedger$Verb") (ad 30) 9 (fun j => .ref (ad (10 + j))) A U H) ∧
  (va_Z "TheatreLedger$1" "$SwitchMap$TheatreLedger$Verb" "[I" (.ref (ad 31)) A U H ∧ va_T .int (ad 31) 9 (fun j => .int (Int32.ofNat (j + 1))) A U H) ∧
  vk_S 15 xTln xTxt (fun i => ad (40 + i)) (fun i => ad (60 + i)) A U H ∧
  va_Z "java/lang/String" "COMPACT_STRINGS" "Z" (.int 1) A U H ∧ va_Zq "jdk/internal/util/Preconditions" "SIOOBE_FORMATTER" "Ljava/util/function/BiFunction;" A U H
theorem xE.moved {ad : Nat → Nat} {A : Nat → Prop} {u U : State} {H : Heap} (hvm : u.vm.Alike U.vm) (h : xE ad A u H) : xE ad A U H :=
  ⟨va_En.moved hvm h.1, fun i hi => ⟨va_O.moved hvm (h.2.1 i hi).1, va_OF.moved hvm (h.2.1 i hi).2⟩, fun j hj => ⟨va_OF.moved hvm (h.2.2.1 j hj).1, va_OF.moved hvm (h.2.2.1 j hj).2⟩, ⟨va_Z.moved hvm h.2.2.2.1.1, va_T.moved hvm h.2.2.2.1.2⟩, ⟨va_Z.moved hvm h.2.2.2.2.1.1, va_T.moved hvm h.2.2.2.2.1.2⟩, vk_S.moved hvm h.2.2.2.2.2.1, va_Z.moved hvm h.2.2.2.2.2.2.1, h.2.2.2.2.2.2.2.moved hvm⟩
theorem xE.kept {ad : Nat → Nat} {A : Nat → Prop} {U : State} {H H1 : Heap} (h : xE ad A U H) (hq : ∀ a : Nat, a < H.size → ¬ A a → H1[a]? = H[a]?) : xE ad A U H1 :=
  ⟨h.1.kept hq, fun i hi => ⟨(h.2.1 i hi).1.kept hq, (h.2.1 i hi).2.kept hq⟩, fun j hj => ⟨(h.2.2.1 j hj).1.kept hq, (h.2.2.1 j hj).2.kept hq⟩, ⟨h.2.2.2.1.1.kept hq, h.2.2.2.1.2.kept hq⟩, ⟨h.2.2.2.2.1.1.kept hq, h.2.2.2.2.1.2.kept hq⟩, h.2.2.2.2.2.1.kept hq, h.2.2.2.2.2.2.1.kept hq, h.2.2.2.2.2.2.2.kept hq⟩
theorem xE.narrow {ad : Nat → Nat} {A B : Nat → Prop} {U : State} {H : Heap} (h : xE ad A U H) (hAB : ∀ q, B q → A q) : xE ad B U H :=
  ⟨h.1.narrow hAB, fun i hi => ⟨(h.2.1 i hi).1.narrow hAB, (h.2.1 i hi).2.narrow hAB⟩, fun j hj => ⟨(h.2.2.1 j hj).1.narrow hAB, (h.2.2.1 j hj).2.narrow hAB⟩, ⟨h.2.2.2.1.1.narrow hAB, h.2.2.2.1.2.narrow hAB⟩, ⟨h.2.2.2.2.1.1.narrow hAB, h.2.2.2.2.1.2.narrow hAB⟩, h.2.2.2.2.2.1.narrow hAB, h.2.2.2.2.2.2.1.narrow hAB, h.2.2.2.2.2.2.2.narrow hAB⟩
def zIn (D : va_G) (cA : Nat → ClassId) (ad : Nat → Nat) (ws : va_W) (sz : Nat) : State → Prop := fun U => xIn D cA ws sz U ∧ xN U ∧ xE ad (va_A ws sz) U U.heap
def zM (l : Launch) (y : MethodName) (bytes : ByteArray) (maxL : Nat) (ret : Option FieldType) (rm : Room) (D : va_G) (cA : Nat → ClassId) (ad : Nat → Nat) (ws : va_W) (sz : Nat) (As : List Value) (v : Option Value) (ws' : va_W) : Prop :=
  Met l y (.code y bytes maxL ret :: xW) rm (va_Pc As (zIn D cA ad ws sz)) (xQ D cA (va_A ws sz) ws' v) 0 0 (va_A ws sz)
theorem zBlind {As : List Value} {D : va_G} {cA : Nat → ClassId} {ad : Nat → Nat} {ws : va_W} {sz : Nat} : FrameBlind (va_Pc As (zIn D cA ad ws sz)) := fun a U g mk q => by
  obtain ⟨q0, ⟨q1, qP, qK, qD⟩, qN, qE⟩ := q
  exact ⟨q0, ⟨q1, qP, va_K.moved (u := U) (U := U.calling g mk a) (Vm.Alike.refl U.vm) qK, qD⟩, xN.same (s := U) (U := U.calling g mk a) rfl qN, xE.moved (u := U) (U := U.calling g mk a) (Vm.Alike.refl U.vm) qE⟩
theorem xE.pass {ad : Nat → Nat} {A0 B : Nat → Prop} {s U : State} {H : Heap} {locs : List Loc} (h : xE ad A0 s s.heap) (hS : va_S A0 s.heap H locs) (hB : ∀ q, B q → A0 q) (hU : U.heap = H) (hW : s.WarmedH U.vm) : xE ad B U U.heap := by
  rw [hU]
  exact ((h.kept (H1 := H) fun a h1 h2 => hS.2.1 a h1 h2).moved hW.alike).narrow hB
section ZB
variable {p : Program} {l : Launch} {e : Env} {R : Room} {s : State} {m : MethodId} {args : Array Value} {below : List Frame} {meth : Method} {c : Code} {H : Heap} {locs : List Loc} {cells slots : Nat} {Q : State → Prop}
theorem zMet {y : MethodName} {bytes : ByteArray} {maxL : Nat} {ret : Option FieldType} {rm : Room} {D : va_G} {cA : Nat → ClassId} {ad : Nat → Nat} {ws : va_W} {sz : Nat} {As : List Value} {v : Option Value} {ws' : va_W}
    (hy : plainName y.cls = true) (hn : (lg_sl As).length ≤ maxL)
    (body : ∀ p e s m below meth c, p.tables.exec = Jvm.exec → c.code = bytes → meth.sig.returnType = ret → meth.locks = false → c.maxLocals = maxL → (∀ w ∈ xW, w.before As.toArray s = true) → s.vm.findClass y.cls = some m.cls →
      meth.name = y.name → va_K D vwCl (xT cA) s → va_P D vwCl ws s.heap → ∀ A, A = va_A ws sz → va_D A ws → va_S A s.heap s.heap [] → (∀ q : Nat, s.heap.size ≤ q → A q) → s.heap.size = sz → xN s → xE ad A s s.heap →
      ∀ ls, lv_has ls maxL (lv_args 0 As) → W p l e rm s m As.toArray below meth c s.heap [] 0 0 (MQ below (xQ D cA A ws' v) As.toArray s 0 0 A) (F0 m 0 ls [])) : zM l y bytes maxL ret rm D cA ad ws sz As v ws' := by
  refine Met.ofW (cc := bytes) (maxL := maxL) (ret := ret) hy rfl ?_
  intro p e s m args below meth c s₁ B hml hv
  obtain ⟨rfl, ⟨hsz, hP, hK, hD0⟩, hN, hE⟩ := hv
  have hts := atoms_spec (ws := .code y bytes maxL ret :: xW) B.pre
  have hl := lv_entry As (n := maxL) hn
  rw [lg_entry_eq]
  generalize (lg_sl As ++ List.replicate (maxL - (lg_sl As).length) Slot.unset).toArray = ls at hl ⊢
  exact body p e s m below meth c B.exec B.bytes B.returns B.notSynchronized hml (fun w h => hts w (List.mem_cons_of_mem _ h)) (findClass_of_methodNamed B.named) (name_of_methodNamed B.named B.method).1 hK hP _ rfl (hD0.self (sz := sz)) va_S.rf (fun q h => Or.inr (by rw [← hsz]; exact h)) hsz hN hE ls hl
end ZB
section ZR
variable {p : Program} {l : Launch} {e : Env} {R : Room} {s : State} {m : MethodId} {args : Array Value} {below : List Frame} {meth : Method} {c : Code} {H : Heap} {locs : List Loc} {cells slots : Nat} {Q : State → Prop}
variable {y : MethodName} {bytes cc : ByteArray} {maxL nL n index : Nat} {ret : Option FieldType} {rm : Room} {own C host : String} {b : Addr} {As rest : List Value} {g : JFrame}
  {D : va_G} {cA : Nat → ClassId} {ad : Nat → Nat} {ws wc w1 : va_W} {v : Option Value} {A0 : Nat → Prop}
theorem zCut (hP : va_P D vwCl ws H) (isC : List Nat) (hC : isC.map (fun i => ws[i]?) = wc.map some) : va_P D vwCl wc H := fun k q hk => by
  have h1 : (isC.map (fun i => ws[i]?))[k]? = some (some q) := by rw [hC, List.getElem?_map, hk]; rfl
  rw [List.getElem?_map] at h1
  cases hi : isC[k]? with
  | none => rw [hi] at h1; cases h1
  | some i => rw [hi] at h1; exact hP i q (Option.some.inj h1)
theorem zPre (hN : xN s) (hE : xE ad A0 s s.heap) (hK : va_K D vwCl (xT cA) s) (hP : va_P D vwCl ws H) (hD : va_D A0 ws) (hS : va_S A0 s.heap H locs) (hA : ∀ q, s.heap.size ≤ q → A0 q) (isC : List Nat) (hC : isC.map (fun i => ws[i]?) = wc.map some) (hCn : va_nd isC = true) :
    ∀ U : State, U.heap = H → s.WarmedH U.vm → zIn D cA ad wc H.size U := fun U hU hW =>
  ⟨⟨by rw [hU], by rw [hU]; exact zCut hP isC hC, va_K.moved hW.alike hK, (hD.sub isC hCn hC).weaken (fun _ _ _ _ => trivial)⟩, hN.warm hW, hE.pass hS (va_free (wc := wc) hD hS hA isC hC) hU hW⟩
theorem zRunV (S : CallFix p m c cc nL s args xW own) (hM : zM l y bytes maxL ret rm D cA ad wc H.size (.ref b :: As) v w1)
    (hco : Cond.code y bytes maxL ret ∈ xW) (hml : Cond.methodLink own index y ∈ xW) (hin : Cond.instanceMethod y ∈ xW) (hse : Cond.selects C y y ∈ xW) (hini : Cond.initialized y.cls ∈ xW) (hd : xCd y n = true)
    (hR : (rm.cells == 0 && rm.slots == 0 && Nat.ble (rm.frames + 1) R.frames && Nat.ble (8 + (maxL + 11) + rm.locals) R.locals) = true)
    (hN : xN s) (hE : xE ad A0 s s.heap) (hS : va_S A0 s.heap H locs) (hA : ∀ q, s.heap.size ≤ q → A0 q)
    (hK : va_K D vwCl (xT cA) s) (hP : va_P D vwCl ws H) (hD : va_D A0 ws) (isC : List Nat) (hC : isC.map (fun i => ws[i]?) = wc.map some) (hCn : va_nd isC = true)
    {q0 ci : Nat} {q : vw_C} {fs : List Value} (hb0 : wc[q0]? = some (b, .inr (ci, fs))) (hq : vwCl[ci]? = some q) (hqC : q.1 = C)
    (hg : g.method = m) (hn : As.length = n) (hsize : g.locals.size = nL) (hstack : g.stack = As.reverse ++ .ref b :: rest) (hW : 2 * g.monitorRoom + (rest.map fun v => v.category).sum ≤ 8) (hdg : decode cc g.pc = .ok (.invokevirtual index, 3)) (hcs : cells ≤ R.cells ∧ slots ≤ R.slots) :
    va_Run p l e R s m args below meth c H locs cells slots 0 0 g rest (xQ D cA (va_A wc H.size) w1 v (Value.ref b :: As).toArray) (va_A wc H.size) := by
  simp only [Bool.and_eq_true, beq_iff_eq, Nat.ble_eq] at hR
  have hts := S.2.2.2.2
  subst hqC
  exact va_runV S hM ⟨callB_of n hts (xG hco) rfl hR.1.1.1 hR.1.1.2 (hts _ hini) (hts _ hml) (xCd_of hd) ⟨hR.1.2, hR.2⟩, hts _ hin, hts _ hse⟩
    ⟨zBlind, va_recv hK (zCut hP isC hC) hq hb0, fun U hU hW => ⟨rfl, zPre hN hE hK hP hD hS hA isC hC hCn U hU hW⟩⟩ hg hn hsize hstack hW hdg hcs
theorem zRunS (S : CallFix p m c cc nL s args xW own) (hM : zM l y bytes maxL ret rm D cA ad wc H.size As v w1)
    (hco : Cond.code y bytes maxL ret ∈ xW) (hml : Cond.methodLink own index y ∈ xW) (hst : Cond.static y ∈ xW) (hini : Cond.initialized y.cls ∈ xW) (hd : xCd y n = true)
    (hR : (rm.cells == 0 && rm.slots == 0 && Nat.ble (rm.frames + 1) R.frames && Nat.ble (8 + (maxL + 11) + rm.locals) R.locals) = true)
    (hN : xN s) (hE : xE ad A0 s s.heap) (hS : va_S A0 s.heap H locs) (hA : ∀ q, s.heap.size ≤ q → A0 q)
    (hK : va_K D vwCl (xT cA) s) (hP : va_P D vwCl ws H) (hD : va_D A0 ws) (isC : List Nat) (hC : isC.map (fun i => ws[i]?) = wc.map some) (hCn : va_nd isC = true)
    (hg : g.method = m) (hn : As.length = n) (hsize : g.locals.size = nL) (hstack : g.stack = As.reverse ++ rest) (hW : 2 * g.monitorRoom + (rest.map fun v => v.category).sum ≤ 8) (hdg : decode cc g.pc = .ok (.invokestatic index, 3)) (hcs : cells ≤ R.cells ∧ slots ≤ R.slots) :
    va_Run p l e R s m args below meth c H locs cells slots 0 0 g rest (xQ D cA (va_A wc H.size) w1 v As.toArray) (va_A wc H.size) := by
  simp only [Bool.and_eq_true, beq_iff_eq, Nat.ble_eq] at hR
  have hts := S.2.2.2.2
  exact va_runS S hM ⟨callB_of n hts (xG hco) rfl hR.1.1.1 hR.1.1.2 (hts _ hini) (hts _ hml) (xCd_of hd) ⟨hR.1.2, hR.2⟩, hts _ hst⟩
    ⟨zBlind, fun U hU hW => ⟨rfl, zPre hN hE hK hP hD hS hA isC hC hCn U hU hW⟩⟩ hg hn hsize hstack hW hdg hcs
/-- a static method of a nest mate that needs no world and no surroundings -/
theorem xRunSN (S : CallFix p m c cc nL s args xW own) (hM : xM l y bytes maxL ret rm D cA [] H.size As v [])
    (hco : Cond.code y bytes maxL ret ∈ xW) (hN : xN s) (hml : Cond.methodLinkNest own index y host ∈ xNw) (hst : Cond.static y ∈ xW) (hini : Cond.initialized y.cls ∈ xW) (hd : xCd y n = true)
    (hR : (rm.cells == 0 && rm.slots == 0 && Nat.ble (rm.frames + 1) R.frames && Nat.ble (8 + (maxL + 11) + rm.locals) R.locals) = true)
    (hK : va_K D vwCl (xT cA) s)
    (hg : g.method = m) (hn : As.length = n) (hsize : g.locals.size = nL) (hstack : g.stack = As.reverse ++ rest) (hW : 2 * g.monitorRoom + (rest.map fun v => v.category).sum ≤ 8) (hdg : decode cc g.pc = .ok (.invokestatic index, 3)) (hcs : cells ≤ R.cells ∧ slots ≤ R.slots) :
    va_Run p l e R s m args below meth c H locs cells slots 0 0 g rest (xQ D cA (va_A [] H.size) [] v As.toArray) (va_A [] H.size) := by
  simp only [Bool.and_eq_true, beq_iff_eq, Nat.ble_eq] at hR
  have hts := S.2.2.2.2
  exact va_runSN S hM ⟨va_cnB n hts (xG hco) rfl hR.1.1.1 hR.1.1.2 (hN _ hml) (hts _ hini) (xCd_of hd) ⟨hR.1.2, hR.2⟩, hts _ hst, trivial⟩
    ⟨xBlind, fun U hU hW => ⟨rfl, by rw [hU], fun k q hk => by simp at hk, va_K.moved hW.alike hK, ⟨fun i j p q h => by simp at h, fun k q h => by simp at h⟩⟩⟩ hg hn hsize hstack hW hdg hcs
end ZR
section ZE
variable {p : Program} {l : Launch} {e : Env} {R : Room} {s : State} {m : MethodId} {args : Array Value} {below : List Frame} {meth : Method} {c : Code} {H : Heap} {locs : List Loc} {cells slots : Nat} {Q : State → Prop}
variable {cc : ByteArray} {pc : Nat} {ls : Array Slot} {rest : List Value} {D : va_G} {cA : Nat → ClassId} {ad : Nat → Nat} {A : Nat → Prop} {ws' : va_W}
theorem zAret {a : Nat} {C : String} (hx : p.tables.exec = Jvm.exec) (hb : c.code = cc) (hr : meth.sig.returnType = some (.object C)) (hlocks : meth.locks = false) (hP : va_P D vwCl ws' H) (hK : va_K D vwCl (xT cA) s) (hD : va_D A ws') (hS : va_S A s.heap H locs) (hdg : decode cc pc = .ok (.areturn, 1)) :
    W p l e R s m args below meth c H locs 0 0 (MQ below (xQ D cA A ws' (some (.ref a))) args s 0 0 A) (F0 m pc ls [.ref a]) :=
  W.aret hx hb hr (Or.inl ⟨C, rfl⟩) (Or.inr ⟨a, rfl⟩) (fun t ht hW => ⟨⟨rfl, by rw [ht]; exact hP, va_K.moved hW.alike hK, hD⟩, hS.F ht⟩) hS.2.2 hdg hlocks
theorem zAretQ {r : Option Nat} {C : String} (hx : p.tables.exec = Jvm.exec) (hb : c.code = cc) (hr : meth.sig.returnType = some (.object C)) (hlocks : meth.locks = false) (hP : va_P D vwCl ws' H) (hK : va_K D vwCl (xT cA) s) (hD : va_D A ws') (hS : va_S A s.heap H locs) (hdg : decode cc pc = .ok (.areturn, 1)) :
    W p l e R s m args below meth c H locs 0 0 (MQ below (xQ D cA A ws' (some (va_re ad r))) args s 0 0 A) (F0 m pc ls [va_re ad r]) :=
  W.aret hx hb hr (Or.inl ⟨C, rfl⟩) (by cases r with | none => exact Or.inl rfl | some k => exact Or.inr ⟨ad k, rfl⟩) (fun t ht hW => ⟨⟨rfl, by rw [ht]; exact hP, va_K.moved hW.alike hK, hD⟩, hS.F ht⟩) hS.2.2 hdg hlocks
theorem xE.f0 {U : State} (h : xE ad A U H) : va_Z "TheatreLedger$Fault" "NONE" "LTheatreLedger$Fault;" (.ref (ad 0)) A U H := (h.1.1 0 (by decide)).1
theorem xE.f1 {U : State} (h : xE ad A U H) : va_Z "TheatreLedger$Fault" "NO_INDEX" "LTheatreLedger$Fault;" (.ref (ad 1)) A U H := (h.1.1 1 (by decide)).1
theorem xE.f2 {U : State} (h : xE ad A U H) : va_Z "TheatreLedger$Fault" "NO_ENTRY" "LTheatreLedger$Fault;" (.ref (ad 2)) A U H := (h.1.1 2 (by decide)).1
theorem xE.f3 {U : State} (h : xE ad A U H) : va_Z "TheatreLedger$Fault" "OUT_OF_RANGE" "LTheatreLedger$Fault;" (.ref (ad 3)) A U H := (h.1.1 3 (by decide)).1
theorem xE.f4 {U : State} (h : xE ad A U H) : va_Z "TheatreLedger$Fault" "WRONG_STATE" "LTheatreLedger$Fault;" (.ref (ad 4)) A U H := (h.1.1 4 (by decide)).1
theorem xE.f5 {U : State} (h : xE ad A U H) : va_Z "TheatreLedger$Fault" "TOO_DEAR" "LTheatreLedger$Fault;" (.ref (ad 5)) A U H := (h.1.1 5 (by decide)).1
theorem xE.inj {U : State} (h : xE ad A U H) {i j : Nat} (hi : i < 6) (hj : j < 6) (e : ad i = ad j) : i = j := h.1.2 i j hi hj e
theorem zAcmp_eq {U : State} {H9 : Heap} (hE : xE ad A U H9) (hexec : p.tables.exec = Jvm.exec) (hb : c.code = cc) {i j : Nat} (hi : i < 6) (hj : j < 6) {off : Int} {tgt : Nat} (hdg : decode cc pc = .ok (.if_acmp .eq off, 3)) (ht : (pc : Int) + off = (tgt : Int))
    (kt : i = j → W p l e R s m args below meth c H locs cells slots Q (F0 m tgt ls rest)) (kf : ¬ i = j → W p l e R s m args below meth c H locs cells slots Q (F0 m (pc + 3) ls rest)) : W p l e R s m args below meth c H locs cells slots Q (F0 m pc ls (.ref (ad j) :: .ref (ad i) :: rest)) :=
  lv_acmp_eq (rx := some (ad i)) (ry := some (ad j)) hexec hb hdg ht (fun h => kt (hE.inj hi hj (Option.some.inj h))) (fun h => kf (fun e => h (by rw [e])))
theorem zAcmp_ne {U : State} {H9 : Heap} (hE : xE ad A U H9) (hexec : p.tables.exec = Jvm.exec) (hb : c.code = cc) {i j : Nat} (hi : i < 6) (hj : j < 6) {off : Int} {tgt : Nat} (hdg : decode cc pc = .ok (.if_acmp .ne off, 3)) (ht : (pc : Int) + off = (tgt : Int))
    (kt : ¬ i = j → W p l e R s m args below meth c H locs cells slots Q (F0 m tgt ls rest)) (kf : i = j → W p l e R s m args below meth c H locs cells slots Q (F0 m (pc + 3) ls rest)) : W p l e R s m args below meth c H locs cells slots Q (F0 m pc ls (.ref (ad j) :: .ref (ad i) :: rest)) :=
  lv_acmp_ne (rx := some (ad i)) (ry := some (ad j)) hexec hb hdg ht (fun h => kt (fun e => h (by rw [e]))) (fun h => kf (hE.inj hi hj (Option.some.inj (by first | exact h | exact Classical.not_not.mp h))))
end ZE
/-- every element fits the row's type -/
def xfitC (n : Nat) (f : Nat → Int32) : Bool := (List.range n).all fun i => fits .char (.int (f i))
theorem xfitC_n {n : Nat} {f : Nat → Int32} (h : xfitC n f = true) (i : Nat) (hi : i < n) : fits .char (.int (f i)) = true := by
  have := List.all_eq_true.mp h i (List.mem_range.mpr hi)
  exact this
