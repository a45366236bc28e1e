/-! ===== the law's texts: environment, contract form and the JDK's members over it (out of parts 20 and 23 by program) ===== -/
def tTxt : List (List Int32) := [[97, 108, 105, 101], [119, 97, 105, 116, 32, 50, 59, 99, 117, 114, 116, 97, 105, 110, 59, 119, 97, 105, 116], [119, 97, 105, 116, 59, 112, 97, 121, 32, 48], [98, 117, 121, 32, 48, 32, 53], [112], [98], [112, 111, 115, 116, 32, 48, 32, 52], [111, 112, 101, 110], [111, 112, 101, 110, 32, 97, 32], [98, 117, 121, 32, 49, 50, 51], [], [119, 97, 105, 116, 59], [111, 112, 101, 110, 32, 120], [99, 117, 114, 116, 97, 105, 110, 115], [122], [98, 117, 121, 32, 53, 32, 50, 48, 59, 98, 117, 121, 32, 51, 32, 51, 48, 59, 115, 101, 108, 108, 32, 54, 32, 52, 48, 59, 98, 105, 108, 108, 32, 51, 48, 59, 98, 105, 108, 108, 32, 50, 48, 59, 98, 105, 108, 108, 32, 53, 48, 59, 112, 97, 121, 32, 53, 48], [55, 58, 48, 60, 50, 61, 53, 48, 33], [57, 58, 50, 60, 48, 61, 53, 48], [111, 112, 101, 110, 32, 101, 32, 48]]
def tTln : List Nat := tTxt.map List.length
/-- where they stand in the law's pool, and their words -/
def tPl : List (Nat × String) := [(37, "alie"), (189, "wait 2;curtain;wait"), (202, "wait;pay 0"), (210, "buy 0 5"), (212, "p"), (218, "b"), (220, "post 0 4"), (222, "open"), (223, "open a "), (225, "buy 123"), (227, ""), (229, "wait;"), (231, "open x"), (233, "curtains"), (235, "z"), (260, "buy 5 20;buy 3 30;sell 6 40;bill 30;bill 20;bill 50;pay 50"), (302, "7:0<2=50!"), (308, "9:2<0=50"), (326, "open e 0")]
def tE (ad : Nat → Nat) (A : Nat → Prop) (U : State) (H : Heap) : Prop :=
  vk_S 19 tTln tTxt (fun i => ad i) (fun i => ad (19 + i)) A U H ∧ va_Z "java/lang/String" "COMPACT_STRINGS" "Z" (.int 1) A U H ∧ va_Zq "jdk/internal/util/Preconditions" "SIOOBE_FORMATTER" "Ljava/util/function/BiFunction;" A U H
theorem tE.moved {ad : Nat → Nat} {A : Nat → Prop} {u U : State} {H : Heap} (hvm : u.vm.Alike U.vm) (h : tE ad A u H) : tE ad A U H := ⟨vk_S.moved hvm h.1, va_Z.moved hvm h.2.1, h.2.2.moved hvm⟩
theorem tE.kept {ad : Nat → Nat} {A : Nat → Prop} {U : State} {H H1 : Heap} (h : tE ad A U H) (hq : ∀ a : Nat, a < H.size → ¬ A a → H1[a]? = H[a]?) : tE ad A U H1 := ⟨h.1.kept hq, h.2.1.kept hq, h.2.2.kept hq⟩
theorem tE.narrow {ad : Nat → Nat} {A B : Nat → Prop} {U : State} {H : Heap} (h : tE ad A U H) (hAB : ∀ q, B q → A q) : tE ad B U H := ⟨h.1.narrow hAB, h.2.1.narrow hAB, h.2.2.narrow hAB⟩
def tIn (D : va_G) (cA : Nat → ClassId) (ad : Nat → Nat) (ws : va_W) (sz : Nat) : State → Prop := fun U => xIn D cA ws sz U ∧ xN U ∧ tE ad (va_A ws sz) U U.heap
def tM (l : Launch) (y : MethodName) (bytes : ByteArray) (maxL : Nat) (ret : Option FieldType) (rm : Room) (D : va_G) (cA : Nat → ClassId) (ad : Nat → Nat) (ws : va_W) (sz : Nat) (As : List Value) (v : Option Value) (ws' : va_W) : Prop :=
  Met l y (.code y bytes maxL ret :: xW) rm (va_Pc As (tIn D cA ad ws sz)) (xQ D cA (va_A ws sz) ws' v) 0 0 (va_A ws sz)
theorem tBlind {As : List Value} {D : va_G} {cA : Nat → ClassId} {ad : Nat → Nat} {ws : va_W} {sz : Nat} : FrameBlind (va_Pc As (tIn D cA ad ws sz)) := fun a U g mk q => by
  obtain ⟨q0, ⟨q1, qP, qK, qD⟩, qN, qE⟩ := q
  exact ⟨q0, ⟨q1, qP, va_K.moved (u := U) (U := U.calling g mk a) (Vm.Alike.refl U.vm) qK, qD⟩, xN.same (s := U) (U := U.calling g mk a) rfl qN, tE.moved (u := U) (U := U.calling g mk a) (Vm.Alike.refl U.vm) qE⟩
theorem tE.pass {ad : Nat → Nat} {A0 B : Nat → Prop} {s U : State} {H : Heap} {locs : List Loc} (h : tE ad A0 s s.heap) (hS : va_S A0 s.heap H locs) (hB : ∀ q, B q → A0 q) (hU : U.heap = H) (hW : s.WarmedH U.vm) : tE ad B U U.heap := by
  rw [hU]
  exact ((h.kept (H1 := H) fun a h1 h2 => hS.2.1 a h1 h2).moved hW.alike).narrow hB
section ZB
variable {p : Program} {l : Launch} {e : Env} {R : Room} {s : State} {m : MethodId} {args : Array Value} {below : List Frame} {meth : Method} {c : Code} {H : Heap} {locs : List Loc} {cells slots : Nat} {Q : State → Prop}
theorem tMet {y : MethodName} {bytes : ByteArray} {maxL : Nat} {ret : Option FieldType} {rm : Room} {D : va_G} {cA : Nat → ClassId} {ad : Nat → Nat} {ws : va_W} {sz : Nat} {As : List Value} {v : Option Value} {ws' : va_W}
    (hy : plainName y.cls = true) (hn : (lg_sl As).length ≤ maxL)
    (body : ∀ p e s m below meth c, p.tables.exec = Jvm.exec → c.code = bytes → meth.sig.returnType = ret → meth.locks = false → c.maxLocals = maxL → (∀ w ∈ xW, w.before As.toArray s = true) → s.vm.findClass y.cls = some m.cls →
      meth.name = y.name → va_K D vwCl (xT cA) s → va_P D vwCl ws s.heap → ∀ A, A = va_A ws sz → va_D A ws → va_S A s.heap s.heap [] → (∀ q : Nat, s.heap.size ≤ q → A q) → s.heap.size = sz → xN s → tE ad A s s.heap →
      ∀ ls, lv_has ls maxL (lv_args 0 As) → W p l e rm s m As.toArray below meth c s.heap [] 0 0 (MQ below (xQ D cA A ws' v) As.toArray s 0 0 A) (F0 m 0 ls [])) : tM l y bytes maxL ret rm D cA ad ws sz As v ws' := by
  refine Met.ofW (cc := bytes) (maxL := maxL) (ret := ret) hy rfl ?_
  intro p e s m args below meth c s₁ B hml hv
  obtain ⟨rfl, ⟨hsz, hP, hK, hD0⟩, hN, hE⟩ := hv
  have hts := atoms_spec (ws := .code y bytes maxL ret :: xW) B.pre
  have hl := lv_entry As (n := maxL) hn
  rw [lg_entry_eq]
  generalize (lg_sl As ++ List.replicate (maxL - (lg_sl As).length) Slot.unset).toArray = ls at hl ⊢
  exact body p e s m below meth c B.exec B.bytes B.returns B.notSynchronized hml (fun w h => hts w (List.mem_cons_of_mem _ h)) (findClass_of_methodNamed B.named) (name_of_methodNamed B.named B.method).1 hK hP _ rfl (hD0.self (sz := sz)) va_S.rf (fun q h => Or.inr (by rw [← hsz]; exact h)) hsz hN hE ls hl
end ZB
section ZR
variable {p : Program} {l : Launch} {e : Env} {R : Room} {s : State} {m : MethodId} {args : Array Value} {below : List Frame} {meth : Method} {c : Code} {H : Heap} {locs : List Loc} {cells slots : Nat} {Q : State → Prop}
variable {y : MethodName} {bytes cc : ByteArray} {maxL nL n index : Nat} {ret : Option FieldType} {rm : Room} {own C host : String} {b : Addr} {As rest : List Value} {g : JFrame}
  {D : va_G} {cA : Nat → ClassId} {ad : Nat → Nat} {ws wc w1 : va_W} {v : Option Value} {A0 : Nat → Prop}
theorem tPre (hN : xN s) (hE : tE ad A0 s s.heap) (hK : va_K D vwCl (xT cA) s) (hP : va_P D vwCl ws H) (hD : va_D A0 ws) (hS : va_S A0 s.heap H locs) (hA : ∀ q, s.heap.size ≤ q → A0 q) (isC : List Nat) (hC : isC.map (fun i => ws[i]?) = wc.map some) (hCn : va_nd isC = true) :
    ∀ U : State, U.heap = H → s.WarmedH U.vm → tIn D cA ad wc H.size U := fun U hU hW =>
  ⟨⟨by rw [hU], by rw [hU]; exact zCut hP isC hC, va_K.moved hW.alike hK, (hD.sub isC hCn hC).weaken (fun _ _ _ _ => trivial)⟩, hN.warm hW, hE.pass hS (va_free (wc := wc) hD hS hA isC hC) hU hW⟩
theorem tRunV (S : CallFix p m c cc nL s args xW own) (hM : tM l y bytes maxL ret rm D cA ad wc H.size (.ref b :: As) v w1)
    (hco : Cond.code y bytes maxL ret ∈ xW) (hml : Cond.methodLink own index y ∈ xW) (hin : Cond.instanceMethod y ∈ xW) (hse : Cond.selects C y y ∈ xW) (hini : Cond.initialized y.cls ∈ xW) (hd : xCd y n = true)
    (hR : (rm.cells == 0 && rm.slots == 0 && Nat.ble (rm.frames + 1) R.frames && Nat.ble (8 + (maxL + 11) + rm.locals) R.locals) = true)
    (hN : xN s) (hE : tE ad A0 s s.heap) (hS : va_S A0 s.heap H locs) (hA : ∀ q, s.heap.size ≤ q → A0 q)
    (hK : va_K D vwCl (xT cA) s) (hP : va_P D vwCl ws H) (hD : va_D A0 ws) (isC : List Nat) (hC : isC.map (fun i => ws[i]?) = wc.map some) (hCn : va_nd isC = true)
    {q0 ci : Nat} {q : vw_C} {fs : List Value} (hb0 : wc[q0]? = some (b, .inr (ci, fs))) (hq : vwCl[ci]? = some q) (hqC : q.1 = C)
    (hg : g.method = m) (hn : As.length = n) (hsize : g.locals.size = nL) (hstack : g.stack = As.reverse ++ .ref b :: rest) (hW : 2 * g.monitorRoom + (rest.map fun v => v.category).sum ≤ 8) (hdg : decode cc g.pc = .ok (.invokevirtual index, 3)) (hcs : cells ≤ R.cells ∧ slots ≤ R.slots) :
    va_Run p l e R s m args below meth c H locs cells slots 0 0 g rest (xQ D cA (va_A wc H.size) w1 v (Value.ref b :: As).toArray) (va_A wc H.size) := by
  simp only [Bool.and_eq_true, beq_iff_eq, Nat.ble_eq] at hR
  have hts := S.2.2.2.2
  subst hqC
  exact va_runV S hM ⟨callB_of n hts (xG hco) rfl hR.1.1.1 hR.1.1.2 (hts _ hini) (hts _ hml) (xCd_of hd) ⟨hR.1.2, hR.2⟩, hts _ hin, hts _ hse⟩
    ⟨tBlind, va_recv hK (zCut hP isC hC) hq hb0, fun U hU hW => ⟨rfl, tPre hN hE hK hP hD hS hA isC hC hCn U hU hW⟩⟩ hg hn hsize hstack hW hdg hcs
theorem tRunS (S : CallFix p m c cc nL s args xW own) (hM : tM l y bytes maxL ret rm D cA ad wc H.size As v w1)
    (hco : Cond.code y bytes maxL ret ∈ xW) (hml : Cond.methodLink own index y ∈ xW) (hst : Cond.static y ∈ xW) (hini : Cond.initialized y.cls ∈ xW) (hd : xCd y n = true)
    (hR : (rm.cells == 0 && rm.slots == 0 && Nat.ble (rm.frames + 1) R.frames && Nat.ble (8 + (maxL + 11) + rm.locals) R.locals) = true)
    (hN : xN s) (hE : tE ad A0 s s.heap) (hS : va_S A0 s.heap H locs) (hA : ∀ q, s.heap.size ≤ q → A0 q)
    (hK : va_K D vwCl (xT cA) s) (hP : va_P D vwCl ws H) (hD : va_D A0 ws) (isC : List Nat) (hC : isC.map (fun i => ws[i]?) = wc.map some) (hCn : va_nd isC = true)
    (hg : g.method = m) (hn : As.length = n) (hsize : g.locals.size = nL) (hstack : g.stack = As.reverse ++ rest) (hW : 2 * g.monitorRoom + (rest.map fun v => v.category).sum ≤ 8) (hdg : decode cc g.pc = .ok (.invokestatic index, 3)) (hcs : cells ≤ R.cells ∧ slots ≤ R.slots) :
    va_Run p l e R s m args below meth c H locs cells slots 0 0 g rest (xQ D cA (va_A wc H.size) w1 v As.toArray) (va_A wc H.size) := by
  simp only [Bool.and_eq_true, beq_iff_eq, Nat.ble_eq] at hR
  have hts := S.2.2.2.2
  exact va_runS S hM ⟨callB_of n hts (xG hco) rfl hR.1.1.1 hR.1.1.2 (hts _ hini) (hts _ hml) (xCd_of hd) ⟨hR.1.2, hR.2⟩, hts _ hst⟩
    ⟨tBlind, fun U hU hW => ⟨rfl, tPre hN hE hK hP hD hS hA isC hC hCn U hU hW⟩⟩ hg hn hsize hstack hW hdg hcs
end ZR
section ZS
variable {p : Program} {l : Launch} {e : Env} {R : Room} {s : State} {m : MethodId} {args : Array Value} {below : List Frame} {meth : Method} {c : Code} {H : Heap} {locs : List Loc} {cells slots : Nat} {Q : State → Prop}
variable {y : MethodName} {bytes cc : ByteArray} {maxL nL n index : Nat} {ret : Option FieldType} {rm : Room} {own C : String} {b : Addr} {As rest : List Value} {g : JFrame}
  {D : va_G} {cA : Nat → ClassId} {ad : Nat → Nat} {ws wc w1 : va_W} {v : Option Value} {A0 : Nat → Prop}
/-- the receiver given by its cell alone -/
theorem tRunVr (S : CallFix p m c cc nL s args xW own) (hM : tM l y bytes maxL ret rm D cA ad wc H.size (.ref b :: As) v w1)
    (hco : Cond.code y bytes maxL ret ∈ xW) (hml : Cond.methodLink own index y ∈ xW) (hin : Cond.instanceMethod y ∈ xW) (hse : Cond.selects C y y ∈ xW) (hini : Cond.initialized y.cls ∈ xW) (hd : xCd y n = true)
    (hR : (rm.cells == 0 && rm.slots == 0 && Nat.ble (rm.frames + 1) R.frames && Nat.ble (8 + (maxL + 11) + rm.locals) R.locals) = true)
    (hN : xN s) (hE : tE ad A0 s s.heap) (hS : va_S A0 s.heap H locs) (hA : ∀ q, s.heap.size ≤ q → A0 q)
    (hK : va_K D vwCl (xT cA) s) (hP : va_P D vwCl ws H) (hD : va_D A0 ws) (isC : List Nat) (hC : isC.map (fun i => ws[i]?) = wc.map some) (hCn : va_nd isC = true)
    (hrec : ∃ cell : Cell, H[b]? = some cell ∧ cell.vm.isStatics = false ∧ s.vm.findClass C = some cell.cls)
    (hg : g.method = m) (hn : As.length = n) (hsize : g.locals.size = nL) (hstack : g.stack = As.reverse ++ .ref b :: rest) (hW : 2 * g.monitorRoom + (rest.map fun v => v.category).sum ≤ 8) (hdg : decode cc g.pc = .ok (.invokevirtual index, 3)) (hcs : cells ≤ R.cells ∧ slots ≤ R.slots) :
    va_Run p l e R s m args below meth c H locs cells slots 0 0 g rest (xQ D cA (va_A wc H.size) w1 v (Value.ref b :: As).toArray) (va_A wc H.size) := by
  simp only [Bool.and_eq_true, beq_iff_eq, Nat.ble_eq] at hR
  have hts := S.2.2.2.2
  exact va_runV S hM ⟨callB_of n hts (xG hco) rfl hR.1.1.1 hR.1.1.2 (hts _ hini) (hts _ hml) (xCd_of hd) ⟨hR.1.2, hR.2⟩, hts _ hin, hts _ hse⟩
    ⟨tBlind, hrec, fun U hU hW => ⟨rfl, tPre hN hE hK hP hD hS hA isC hC hCn U hU hW⟩⟩ hg hn hsize hstack hW hdg hcs
theorem tE.str (hE : tE ad A0 s s.heap) (hS : va_S A0 s.heap H locs) {i : Nat} (hi : i < 19) : ∃ cell : Cell, H[ad i]? = some cell ∧ cell.vm.isStatics = false ∧ s.vm.findClass "java/lang/String" = some cell.cls :=
  vk_recv (adK := fun i => ad i) hE.1 hi hS
theorem tE.coder (hE : tE ad A0 s s.heap) {i : Nat} (hi : i < 19) : va_OF "java/lang/String" "coder" "B" (.int 0) (ad i) A0 s s.heap := (hE.1.1 i hi).2.1
theorem tE.value (hE : tE ad A0 s s.heap) {i : Nat} (hi : i < 19) : va_OF "java/lang/String" "value" "[B" (.ref (ad (19 + i))) (ad i) A0 s s.heap := (hE.1.1 i hi).2.2.1
theorem tE.byt (hE : tE ad A0 s s.heap) {i : Nat} (hi : i < 19) : va_T .byte (ad (19 + i)) (tTln.getD i 0) (fun j => .int ((tTxt.getD i []).getD j 0)) A0 s s.heap := (hE.1.1 i hi).2.2.2
theorem tE.compact (hE : tE ad A0 s s.heap) : va_Z "java/lang/String" "COMPACT_STRINGS" "Z" (.int 1) A0 s s.heap := hE.2.1
theorem tE.siobe (hE : tE ad A0 s s.heap) : ∃ o : Option Nat, va_Z "jdk/internal/util/Preconditions" "SIOOBE_FORMATTER" "Ljava/util/function/BiFunction;" (va_rf o) A0 s s.heap := by
  rcases hE.2.2 with h | ⟨t, h⟩
  · exact ⟨none, h⟩
  · exact ⟨some t, h⟩
end ZS
def tLen (i : Nat) : Int32 := Int32.ofNat (tTln.getD i 0)
def tCh (i k : Nat) : Int32 := (tTxt.getD i []).getD k 0
theorem tLen_sh : ∀ i, i < 19 → tLen i >>> (0 &&& 31) = tLen i := by decide +kernel
theorem tCh_and : ∀ i, i < 19 → ∀ k, k < tTln.getD i 0 → ((Int32.toUInt32 (tCh i k &&& 255)) % 65536).toInt32 = tCh i k := by decide +kernel
theorem tCh_nar : ∀ i, i < 19 → ∀ k, k < tTln.getD i 0 → narrow .char (.int (tCh i k)) = .int (tCh i k) := by decide +kernel
theorem tLen_in : ∀ i, i < 19 → (tLen i).toInt = (tTln.getD i 0 : Int) := by decide +kernel
set_option maxRecDepth 100000 in
set_option maxHeartbeats 4000000 in
theorem uJ0_coder (l : Launch) (D : va_G) (cA : Nat → ClassId) (ad : Nat → Nat) (sz : Nat) {i : Nat} (hi : i < 19) : tM l yJ0_coder_7d493 cJ0_coder_7d493 1 (some .byte) ({ frames := 0, cells := 0, slots := 0, locals := 0 } : Room) D cA ad [] sz [.ref (ad i)] (some (.int 0)) [] := by
  generalize erm : ({ frames := 0, cells := 0, slots := 0, locals := 0 } : Room) = rm
  refine tMet (by decide) (Nat.le_of_ble_eq_true rfl) ?_
  intro p e s m below meth c hx hb hr hlocks hml hts hown hin hK hP A eA hD hS hA hsz hN hE ls hl
  have hl : lv_has ls 1 [(0, .ref (ad i))] := hl
  clear eA
  refine va_gets hx hb hE.compact hS hown (hts _ qfl_J0_38) (fun _ h9 => h9) dJ0_coder_7d493_0 ?_
  refine lv_if_eq (tgt := 13) hx hb dJ0_coder_7d493_3 (by decide) (fun c => absurd c (by decide)) (fun _ => ?_)
  refine lv_aload_n hx hb dJ0_coder_7d493_6 rfl (lv_at hl 0 rfl) ?_
  refine vk_getf hx hb (hE.coder hi) hS hown (hts _ qfl_J0_15) (fun _ h9 => h9) dJ0_coder_7d493_7 ?_
  refine lv_goto (tgt := 14) hx hb dJ0_coder_7d493_10 (by decide) ?_
  exact xZret (v := 0) hx hb hr hlocks (by decide) hP hK hD hS dJ0_coder_7d493_14
set_option maxRecDepth 100000 in
set_option maxHeartbeats 4000000 in
theorem uJ0_isLatin1 (l : Launch) (D : va_G) (cA : Nat → ClassId) (ad : Nat → Nat) (sz : Nat) {i : Nat} (hi : i < 19) : tM l yJ0_isLatin1_aae02 cJ0_isLatin1_aae02 1 (some .boolean) ({ frames := 0, cells := 0, slots := 0, locals := 0 } : Room) D cA ad [] sz [.ref (ad i)] (some (.int 1)) [] := by
  generalize erm : ({ frames := 0, cells := 0, slots := 0, locals := 0 } : Room) = rm
  refine tMet (by decide) (Nat.le_of_ble_eq_true rfl) ?_
  intro p e s m below meth c hx hb hr hlocks hml hts hown hin hK hP A eA hD hS hA hsz hN hE ls hl
  have hl : lv_has ls 1 [(0, .ref (ad i))] := hl
  clear eA
  refine va_gets hx hb hE.compact hS hown (hts _ qfl_J0_38) (fun _ h9 => h9) dJ0_isLatin1_aae02_0 ?_
  refine lv_if_eq (tgt := 17) hx hb dJ0_isLatin1_aae02_3 (by decide) (fun c => absurd c (by decide)) (fun _ => ?_)
  refine lv_aload_n hx hb dJ0_isLatin1_aae02_6 rfl (lv_at hl 0 rfl) ?_
  refine vk_getf hx hb (hE.coder hi) hS hown (hts _ qfl_J0_15) (fun _ h9 => h9) dJ0_isLatin1_aae02_7 ?_
  refine lv_if_ne (tgt := 17) hx hb dJ0_isLatin1_aae02_10 (by decide) (fun c => absurd rfl c) (fun _ => ?_)
  refine lv_iconst (v := 1) hx hb dJ0_isLatin1_aae02_13 (by decide) ?_
  refine lv_goto (tgt := 18) hx hb dJ0_isLatin1_aae02_14 (by decide) ?_
  exact xZret (v := 1) hx hb hr hlocks (by decide) hP hK hD hS dJ0_isLatin1_aae02_18
set_option maxRecDepth 100000 in
set_option maxHeartbeats 4000000 in
theorem uJ0_length (l : Launch) (D : va_G) (cA : Nat → ClassId) (ad : Nat → Nat) (sz : Nat) {i : Nat} (hi : i < 19) : tM l yJ0_length_8abf5 cJ0_length_8abf5 1 (some .int) ({ frames := 1, cells := 0, slots := 0, locals := 20 } : Room) D cA ad [] sz [.ref (ad i)] (some (.int (tLen i))) [] := by
  generalize erm : ({ frames := 1, cells := 0, slots := 0, locals := 20 } : Room) = rm
  refine tMet (by decide) (Nat.le_of_ble_eq_true rfl) ?_
  intro p e s m below meth c hx hb hr hlocks hml hts hown hin hK hP A eA hD hS hA hsz hN hE ls hl
  have hl : lv_has ls 1 [(0, .ref (ad i))] := hl
  clear eA
  refine lv_aload_n hx hb dJ0_length_8abf5_0 rfl (lv_at hl 0 rfl) ?_
  refine vk_getf hx hb (hE.value hi) hS hown (hts _ qfl_J0_9) (fun _ h9 => h9) dJ0_length_8abf5_1 ?_
  refine va_tlen (v := tLen i) hx hb (hE.byt hi) hS rfl dJ0_length_8abf5_4 ?_
  refine lv_aload_n hx hb dJ0_length_8abf5_5 rfl (lv_at hl 0 rfl) ?_
  refine xCall (w2 := []) (tRunVr (n := 0) (As := []) (rest := [.int (tLen i)]) ⟨hx, hb, hml, hown, hts⟩ (uJ0_coder l D cA ad _ hi) qco_J0_coder_7d493 qml_J0_335 qin_J0_coder_7d493 qse_J0_coder_7d493 qini_J0 (by decide +kernel) (by rw [← erm]; rfl) hN hE hS hA hK hP hD [] rfl rfl (hE.str hS hi) rfl rfl hl.1 rfl (lv_room (Nat.le_of_ble_eq_true rfl)) dJ0_length_8abf5_6 ⟨Nat.zero_le _, Nat.zero_le _⟩) hP hD hS hA [] [] [] rfl (wr := []) rfl rfl rfl rfl rfl (fun H locs hP hD hS => ?_)
  refine lv_ishr hx hb dJ0_length_8abf5_9 ?_
  rw [tLen_sh i hi]
  exact xIret hx hb hr hlocks hP hK hD hS dJ0_length_8abf5_10
set_option maxRecDepth 100000 in
set_option maxHeartbeats 4000000 in
theorem uJ3_checkIndex (l : Launch) (D : va_G) (cA : Nat → ClassId) (ad : Nat → Nat) (sz : Nat) (a n : Int32) (f : Option Nat) (h1 : ¬ a < 0) (h2 : a < n) : tM l yJ3_checkIndex_8e157 cJ3_checkIndex_8e157 3 (some .int) ({ frames := 0, cells := 0, slots := 0, locals := 0 } : Room) D cA ad [] sz [.int a, .int n, va_rf f] (some (.int a)) [] := by
  generalize erm : ({ frames := 0, cells := 0, slots := 0, locals := 0 } : Room) = rm
  cases f <;> (
    refine tMet (by decide) (Nat.le_of_ble_eq_true rfl) ?_
    intro p e s m below meth c hx hb hr hlocks hml hts hown hin hK hP A eA hD hS hA hsz hN hE ls hl
    have hl : lv_has ls 3 [(0, .int a), (1, .int n)] := lv_sub hl [0, 1] rfl
    clear eA
    refine lv_iload_n hx hb dJ3_checkIndex_8e157_0 rfl (lv_at hl 0 rfl) ?_
    refine lv_if_lt (tgt := 9) hx hb dJ3_checkIndex_8e157_1 (by decide) (fun c => absurd c h1) (fun _ => ?_)
    refine lv_iload_n hx hb dJ3_checkIndex_8e157_4 rfl (lv_at hl 0 rfl) ?_
    refine lv_iload_n hx hb dJ3_checkIndex_8e157_5 rfl (lv_at hl 1 rfl) ?_
    refine lv_icmp_lt (tgt := 16) hx hb dJ3_checkIndex_8e157_6 (by decide) (fun _ => ?_) (fun c => absurd h2 c)
    refine lv_iload_n hx hb dJ3_checkIndex_8e157_16 rfl (lv_at hl 0 rfl) ?_
    exact xIret hx hb hr hlocks hP hK hD hS dJ3_checkIndex_8e157_17)
set_option maxRecDepth 100000 in
set_option maxHeartbeats 4000000 in
theorem uJ0_checkIndex (l : Launch) (D : va_G) (cA : Nat → ClassId) (ad : Nat → Nat) (sz : Nat) (a n : Int32) (h1 : ¬ a < 0) (h2 : a < n) : tM l yJ0_checkIndex_df160 cJ0_checkIndex_df160 2 none ({ frames := 1, cells := 0, slots := 0, locals := 22 } : Room) D cA ad [] sz [.int a, .int n] (none) [] := by
  generalize erm : ({ frames := 1, cells := 0, slots := 0, locals := 22 } : Room) = rm
  refine tMet (by decide) (Nat.le_of_ble_eq_true rfl) ?_
  intro p e s m below meth c hx hb hr hlocks hml hts hown hin hK hP A eA hD hS hA hsz hN hE ls hl
  have hl : lv_has ls 2 [(0, .int a), (1, .int n)] := hl
  clear eA
  obtain ⟨o, hZ⟩ := hE.siobe
  refine lv_iload_n hx hb dJ0_checkIndex_df160_0 rfl (lv_at hl 0 rfl) ?_
  refine lv_iload_n hx hb dJ0_checkIndex_df160_1 rfl (lv_at hl 1 rfl) ?_
  refine va_gets hx hb hZ hS hown (hts _ qfl_J0_1053) (fun _ h9 => h9) dJ0_checkIndex_df160_2 ?_
  refine xCall (w2 := []) (tRunS (n := 3) (As := [.int a, .int n, va_rf o]) (rest := []) ⟨hx, hb, hml, hown, hts⟩ (uJ3_checkIndex l D cA ad _ a n o h1 h2) qco_J3_checkIndex_8e157 qml_J0_1059 qst_J3_checkIndex_8e157 qini_J3 (by decide +kernel) (by rw [← erm]; rfl) hN hE hS hA hK hP hD [] rfl rfl rfl rfl hl.1 rfl (lv_room (Nat.le_of_ble_eq_true rfl)) dJ0_checkIndex_df160_5 ⟨Nat.zero_le _, Nat.zero_le _⟩) hP hD hS hA [] [] [] rfl (wr := []) rfl rfl rfl rfl rfl (fun H locs hP hD hS => ?_)
  refine lv_pop hx hb dJ0_checkIndex_df160_8 rfl ?_
  exact xVret hx hb hr hlocks hP hK hD hS dJ0_checkIndex_df160_9
set_option maxRecDepth 100000 in
set_option maxHeartbeats 4000000 in
theorem uJ1_charAt (l : Launch) (D : va_G) (cA : Nat → ClassId) (ad : Nat → Nat) (sz : Nat) {i : Nat} (hi : i < 19) (a : Int32) (h1 : ¬ a < 0) (h2 : a < tLen i) {k : Nat} (hk : a.toNatClampNeg = k) (hkl : k < tTln.getD i 0) : tM l yJ1_charAt_3b067 cJ1_charAt_3b067 2 (some .char) ({ frames := 2, cells := 0, slots := 0, locals := 43 } : Room) D cA ad [] sz [.ref (ad (19 + i)), .int a] (some (.int (tCh i k))) [] := by
  generalize erm : ({ frames := 2, cells := 0, slots := 0, locals := 43 } : Room) = rm
  refine tMet (by decide) (Nat.le_of_ble_eq_true rfl) ?_
  intro p e s m below meth c hx hb hr hlocks hml hts hown hin hK hP A eA hD hS hA hsz hN hE ls hl
  have hl : lv_has ls 2 [(0, .ref (ad (19 + i))), (1, .int a)] := hl
  clear eA
  refine lv_iload_n hx hb dJ1_charAt_3b067_0 rfl (lv_at hl 1 rfl) ?_
  refine lv_aload_n hx hb dJ1_charAt_3b067_1 rfl (lv_at hl 0 rfl) ?_
  refine va_tlen (v := tLen i) hx hb (hE.byt hi) hS rfl dJ1_charAt_3b067_2 ?_
  refine xCall (w2 := []) (tRunS (n := 2) (As := [.int a, .int (tLen i)]) (rest := []) ⟨hx, hb, hml, hown, hts⟩ (uJ0_checkIndex l D cA ad _ a (tLen i) h1 h2) qco_J0_checkIndex_df160 qml_J1_9 qst_J0_checkIndex_df160 qini_J0 (by decide +kernel) (by rw [← erm]; rfl) hN hE hS hA hK hP hD [] rfl rfl rfl rfl hl.1 rfl (lv_room (Nat.le_of_ble_eq_true rfl)) dJ1_charAt_3b067_3 ⟨Nat.zero_le _, Nat.zero_le _⟩) hP hD hS hA [] [] [] rfl (wr := []) rfl rfl rfl rfl rfl (fun H locs hP hD hS => ?_)
  refine lv_aload_n hx hb dJ1_charAt_3b067_6 rfl (lv_at hl 0 rfl) ?_
  refine lv_iload_n hx hb dJ1_charAt_3b067_7 rfl (lv_at hl 1 rfl) ?_
  refine va_tb (v := .int (tCh i k)) hx hb (hE.byt hi) hS (fun q => q.elim h1 (fun q => by omega)) (by rw [hk]; rfl) dJ1_charAt_3b067_8 ?_
  refine lv_sipush (v := 255) hx hb dJ1_charAt_3b067_9 (by decide) ?_
  refine lv_iand hx hb dJ1_charAt_3b067_12 ?_
  refine lv_i2c (v := tCh i k) hx hb dJ1_charAt_3b067_13 (tCh_and i hi k hkl) ?_
  exact xZret hx hb hr hlocks (tCh_nar i hi k hkl) hP hK hD hS dJ1_charAt_3b067_14
set_option maxRecDepth 100000 in
set_option maxHeartbeats 4000000 in
theorem uJ0_charAt (l : Launch) (D : va_G) (cA : Nat → ClassId) (ad : Nat → Nat) (sz : Nat) {i : Nat} (hi : i < 19) (a : Int32) (h1 : ¬ a < 0) (h2 : a < tLen i) {k : Nat} (hk : a.toNatClampNeg = k) (hkl : k < tTln.getD i 0) : tM l yJ0_charAt_5068e cJ0_charAt_5068e 2 (some .char) ({ frames := 3, cells := 0, slots := 0, locals := 64 } : Room) D cA ad [] sz [.ref (ad i), .int a] (some (.int (tCh i k))) [] := by
  generalize erm : ({ frames := 3, cells := 0, slots := 0, locals := 64 } : Room) = rm
  refine tMet (by decide) (Nat.le_of_ble_eq_true rfl) ?_
  intro p e s m below meth c hx hb hr hlocks hml hts hown hin hK hP A eA hD hS hA hsz hN hE ls hl
  have hl : lv_has ls 2 [(0, .ref (ad i)), (1, .int a)] := hl
  clear eA
  refine lv_aload_n hx hb dJ0_charAt_5068e_0 rfl (lv_at hl 0 rfl) ?_
  refine xCall (w2 := []) (tRunVr (n := 0) (As := []) (rest := []) ⟨hx, hb, hml, hown, hts⟩ (uJ0_isLatin1 l D cA ad _ hi) qco_J0_isLatin1_aae02 qml_J0_492 qin_J0_isLatin1_aae02 qse_J0_isLatin1_aae02 qini_J0 (by decide +kernel) (by rw [← erm]; rfl) hN hE hS hA hK hP hD [] rfl rfl (hE.str hS hi) rfl rfl hl.1 rfl (lv_room (Nat.le_of_ble_eq_true rfl)) dJ0_charAt_5068e_1 ⟨Nat.zero_le _, Nat.zero_le _⟩) hP hD hS hA [] [] [] rfl (wr := []) rfl rfl rfl rfl rfl (fun H locs hP hD hS => ?_)
  refine lv_if_eq (tgt := 16) hx hb dJ0_charAt_5068e_4 (by decide) (fun c => absurd c (by decide)) (fun _ => ?_)
  refine lv_aload_n hx hb dJ0_charAt_5068e_7 rfl (lv_at hl 0 rfl) ?_
  refine vk_getf hx hb (hE.value hi) hS hown (hts _ qfl_J0_9) (fun _ h9 => h9) dJ0_charAt_5068e_8 ?_
  refine lv_iload_n hx hb dJ0_charAt_5068e_11 rfl (lv_at hl 1 rfl) ?_
  refine xCall (w2 := []) (tRunS (n := 2) (As := [.ref (ad (19 + i)), .int a]) (rest := []) ⟨hx, hb, hml, hown, hts⟩ (uJ1_charAt l D cA ad _ hi a h1 h2 hk hkl) qco_J1_charAt_3b067 qml_J0_495 qst_J1_charAt_3b067 qini_J1 (by decide +kernel) (by rw [← erm]; rfl) hN hE hS hA hK hP hD [] rfl rfl rfl rfl hl.1 rfl (lv_room (Nat.le_of_ble_eq_true rfl)) dJ0_charAt_5068e_12 ⟨Nat.zero_le _, Nat.zero_le _⟩) hP hD hS hA [] [] [] rfl (wr := []) rfl rfl rfl rfl rfl (fun H locs hP hD hS => ?_)
  exact xZret hx hb hr hlocks (tCh_nar i hi k hkl) hP hK hD hS dJ0_charAt_5068e_15
