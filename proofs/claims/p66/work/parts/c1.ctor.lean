/-! ===== constructors: their surroundings, contract, calls; new rows ===== -/
def nE (ad : Nat → Nat) (A : Nat → Prop) (U : State) (H : Heap) : Prop := wE ad A U H ∧ vk_R "TheatreLedger$Accounts" 26 "aaalie" (ad 0) U ∧ va_AO "TheatreLedger$Books" U ∧ va_AO "TheatreLedger$Verb" U
theorem nE.kept {ad : Nat → Nat} {A : Nat → Prop} {U : State} {H H1 : Heap} (h : nE ad A U H) (hq : ∀ a : Nat, a < H.size → ¬ A a → H1[a]? = H[a]?) : nE ad A U H1 := ⟨h.1.kept hq, h.2⟩
theorem nE.narrow {ad : Nat → Nat} {A B : Nat → Prop} {U : State} {H : Heap} (h : nE ad A U H) (hAB : ∀ q, B q → A q) : nE ad B U H := ⟨h.1.narrow hAB, h.2⟩
theorem nE.warm {ad : Nat → Nat} {A : Nat → Prop} {s U : State} {H : Heap} (hW : s.WarmedH U.vm) (h : nE ad A s H) : nE ad A U H := ⟨h.1.moved hW.alike, h.2.1.warm hW, h.2.2.1.moved hW.alike, h.2.2.2.moved hW.alike⟩
theorem nE.same {ad : Nat → Nat} {A : Nat → Prop} {s U : State} {H : Heap} (hv : s.vm = U.vm) (h : nE ad A s H) : nE ad A U H := ⟨h.1.moved (by rw [hv]; exact Vm.Alike.refl _), h.2.1.same hv.symm, h.2.2.1.moved (by rw [hv]; exact Vm.Alike.refl _), h.2.2.2.moved (by rw [hv]; exact Vm.Alike.refl _)⟩
theorem nE.pass {ad : Nat → Nat} {A0 B : Nat → Prop} {s U : State} {H : Heap} {locs : List Loc} (h : nE ad A0 s s.heap) (hS : va_S A0 s.heap H locs) (hB : ∀ q, B q → A0 q) (hU : U.heap = H) (hW : s.WarmedH U.vm) : nE ad B U U.heap := by
  rw [hU]
  exact ((h.kept (H1 := H) fun a h1 h2 => hS.2.1 a h1 h2).warm hW).narrow hB
def nIn (D : va_G) (cA : Nat → ClassId) (ad : Nat → Nat) (ws : va_W) (sz : Nat) : State → Prop := fun U => xIn D cA ws sz U ∧ xN U ∧ nE ad (va_A ws sz) U U.heap
def nQ {α : Type} (D : va_G) (cA : Nat → ClassId) (A : Nat → Prop) (px : α → Prop) (F : α → va_W) : Array Value → State → Outcome → State → Prop := fun _ st oc t => (oc = .returned none ∧ ∃ u, px u ∧ xAt D cA A (F u) t) ∧ va_F A st t
def nM {α : Type} (l : Launch) (y : MethodName) (bytes : ByteArray) (maxL : Nat) (rm : Room) (D : va_G) (cA : Nat → ClassId) (ad : Nat → Nat) (x : Nat × va_E) (sz : Nat) (px : α → Prop) (F : α → va_W) (mc ms : Nat) : Prop :=
  Met l y (.code y bytes maxL none :: xW) rm (va_Pc [.ref x.1] (nIn D cA ad [x] sz)) (nQ D cA (va_A [x] sz) px F) mc ms (va_A [x] sz)
theorem nBlind {As : List Value} {D : va_G} {cA : Nat → ClassId} {ad : Nat → Nat} {ws : va_W} {sz : Nat} : FrameBlind (va_Pc As (nIn D cA ad ws sz)) := fun a U g mk q => by
  obtain ⟨q0, ⟨q1, qP, qK, qD⟩, qN, qE⟩ := q
  exact ⟨q0, ⟨q1, qP, va_K.moved (u := U) (U := U.calling g mk a) (Vm.Alike.refl U.vm) qK, qD⟩, xN.same (s := U) (U := U.calling g mk a) rfl qN, nE.same (s := U) (U := U.calling g mk a) rfl qE⟩
/-- what a constructor's body has to say at its end -/
abbrev nEnd {α : Type} (below : List Frame) (D : va_G) (cA : Nat → ClassId) (A : Nat → Prop) (px : α → Prop) (F : α → va_W) (x : Nat) (s : State) (mc ms : Nat) : State → Prop := MQ below (nQ D cA A px F) ([.ref x] : List Value).toArray s mc ms A
section NB
variable {p : Program} {l : Launch} {e : Env} {R : Room} {s : State} {m : MethodId} {args : Array Value} {below : List Frame} {meth : Method} {c : Code} {H : Heap} {locs : List Loc} {cells slots : Nat} {Q : State → Prop}
theorem nMet {α : Type} {y : MethodName} {bytes : ByteArray} {maxL : Nat} {rm : Room} {D : va_G} {cA : Nat → ClassId} {ad : Nat → Nat} {x : Nat × va_E} {sz : Nat} {px : α → Prop} {F : α → va_W} {mc ms : Nat}
    (hy : plainName y.cls = true) (hn : (lg_sl [.ref x.1]).length ≤ maxL)
    (body : ∀ p e s m below meth c, p.tables.exec = Jvm.exec → c.code = bytes → meth.sig.returnType = none → meth.locks = false → c.maxLocals = maxL → (∀ w ∈ xW, w.before ([.ref x.1] : List Value).toArray s = true) → s.vm.findClass y.cls = some m.cls →
      meth.name = y.name → va_K D vwCl (xT cA) s → va_P D vwCl [x] s.heap → ∀ A, A = va_A [x] sz → va_D A [x] → va_S A s.heap s.heap [] → (∀ q : Nat, s.heap.size ≤ q → A q) → s.heap.size = sz → xN s → nE ad A s s.heap →
      ∀ ls, lv_has ls maxL (lv_args 0 [.ref x.1]) → W p l e rm s m ([.ref x.1] : List Value).toArray below meth c s.heap [] 0 0 (nEnd below D cA A px F x.1 s mc ms) (F0 m 0 ls [])) : nM l y bytes maxL rm D cA ad x sz px F mc ms := by
  refine Met.ofW (cc := bytes) (maxL := maxL) (ret := none) hy rfl ?_
  intro p e s m args below meth c s₁ B hml hv
  obtain ⟨rfl, ⟨hsz, hP, hK, hD0⟩, hN, hE⟩ := hv
  have hts := atoms_spec (ws := .code y bytes maxL none :: xW) B.pre
  have hl := lv_entry [.ref x.1] (n := maxL) hn
  rw [lg_entry_eq]
  generalize (lg_sl [.ref x.1] ++ List.replicate (maxL - (lg_sl [.ref x.1]).length) Slot.unset).toArray = ls at hl ⊢
  exact body p e s m below meth c B.exec B.bytes B.returns B.notSynchronized hml (fun w h => hts w (List.mem_cons_of_mem _ h)) (findClass_of_methodNamed B.named) (name_of_methodNamed B.named B.method).1 hK hP _ rfl (hD0.self (sz := sz)) va_S.rf (fun q h => Or.inr (by rw [← hsz]; exact h)) hsz hN hE ls hl
end NB
section NR
variable {p : Program} {l : Launch} {e : Env} {R : Room} {s : State} {m : MethodId} {args : Array Value} {below : List Frame} {meth : Method} {c : Code} {H H0 : Heap} {locs : List Loc} {cells slots mc ms : Nat} {Q : State → Prop}
variable {y : MethodName} {bytes cc : ByteArray} {maxL nL index : Nat} {rm : Room} {own host : String} {rest : List Value} {g : JFrame} {α : Type} {px : α → Prop} {F : α → va_W}
  {D : va_G} {cA : Nat → ClassId} {ad : Nat → Nat} {ws a : va_W} {x : Nat × va_E} {A0 : Nat → Prop} {pc : Nat} {ls : Array Slot}
/-- the world of the new thing alone -/
theorem nPre (hN : xN s) (hE : nE ad A0 s s.heap) (hK : va_K D vwCl (xT cA) s) (hP : va_P D vwCl (a ++ [x]) H) (hD : va_D A0 (a ++ [x])) (hS : va_S A0 s.heap H locs) (hA : ∀ q, s.heap.size ≤ q → A0 q) :
    ∀ U : State, U.heap = H → s.WarmedH U.vm → va_Pc [.ref x.1] (nIn D cA ad [x] H.size) ([.ref x.1] : List Value).toArray U := fun U hU hW => by
  have hC : (mid a.length 1).map (fun i => (a ++ [x])[i]?) = [x].map some := mid_C0 rfl rfl
  exact ⟨rfl, ⟨by rw [hU], by rw [hU]; exact zCut hP _ hC, va_K.moved hW.alike hK, (hD.sub _ (mid_nd _ _) hC).weaken (fun _ _ _ _ => trivial)⟩, hN.warm hW, hE.pass hS (va_free (wc := [x]) hD hS hA _ hC) hU hW⟩
theorem nRunI (S : CallFix p m c cc nL s args xW own) (hM9 : nM l y bytes maxL rm D cA ad x H.size px F mc ms)
    (hco : Cond.code y bytes maxL none ∈ xW) (hml : Cond.methodLink own index y ∈ xW) (hin : Cond.instanceMethod y ∈ xW) (hini : Cond.initialized y.cls ∈ xW) (hd : xCd y 0 = true) (hy1 : y.name = "<init>")
    (hR : (rm.cells == mc && rm.slots == ms && Nat.ble (rm.frames + 1) R.frames && Nat.ble (8 + (maxL + 11) + rm.locals) R.locals) = true)
    (hN : xN s) (hE : nE ad A0 s s.heap) (hS : va_S A0 s.heap H locs) (hA : ∀ q, s.heap.size ≤ q → A0 q) (hK : va_K D vwCl (xT cA) s) (hP : va_P D vwCl (a ++ [x]) H) (hD : va_D A0 (a ++ [x]))
    (hg : g.method = m) (hsize : g.locals.size = nL) (hstack : g.stack = .ref x.1 :: rest) (hW : 2 * g.monitorRoom + (rest.map fun v => v.category).sum ≤ 8) (hdg : decode cc g.pc = .ok (.invokespecial index, 3)) (hcs : cells + mc ≤ R.cells ∧ slots + ms ≤ R.slots) :
    va_Run p l e R s m args below meth c H locs cells slots mc ms g rest (nQ D cA (va_A [x] H.size) px F ([.ref x.1] : List Value).toArray) (va_A [x] H.size) := by
  simp only [Bool.and_eq_true, beq_iff_eq, Nat.ble_eq] at hR
  have hts := S.2.2.2.2
  exact va_runI (As := []) S hM9 (cwI 0 hts (xG hco) rfl hR.1.1.1 hR.1.1.2 (hts _ hini) (hts _ hml) (hts _ hin) hy1 (xCd_of hd) ⟨hR.1.2, hR.2⟩) ⟨nBlind, nPre hN hE hK hP hD hS hA⟩ hg rfl hsize hstack hW hdg hcs
theorem nRunIN (S : CallFix p m c cc nL s args xW own) (hM9 : nM l y bytes maxL rm D cA ad x H.size px F mc ms)
    (hco : Cond.code y bytes maxL none ∈ xW) (hml : Cond.methodLinkNest own index y host ∈ xNw) (hin : Cond.instanceMethod y ∈ xW) (hini : Cond.initialized y.cls ∈ xW) (hd : xCd y 0 = true) (hy1 : y.name = "<init>")
    (hR : (rm.cells == mc && rm.slots == ms && Nat.ble (rm.frames + 1) R.frames && Nat.ble (8 + (maxL + 11) + rm.locals) R.locals) = true)
    (hN : xN s) (hE : nE ad A0 s s.heap) (hS : va_S A0 s.heap H locs) (hA : ∀ q, s.heap.size ≤ q → A0 q) (hK : va_K D vwCl (xT cA) s) (hP : va_P D vwCl (a ++ [x]) H) (hD : va_D A0 (a ++ [x]))
    (hg : g.method = m) (hsize : g.locals.size = nL) (hstack : g.stack = .ref x.1 :: rest) (hW : 2 * g.monitorRoom + (rest.map fun v => v.category).sum ≤ 8) (hdg : decode cc g.pc = .ok (.invokespecial index, 3)) (hcs : cells + mc ≤ R.cells ∧ slots + ms ≤ R.slots) :
    va_Run p l e R s m args below meth c H locs cells slots mc ms g rest (nQ D cA (va_A [x] H.size) px F ([.ref x.1] : List Value).toArray) (va_A [x] H.size) := by
  simp only [Bool.and_eq_true, beq_iff_eq, Nat.ble_eq] at hR
  have hts := S.2.2.2.2
  exact va_runIN (As := []) S hM9 ⟨va_cnB 0 hts (xG hco) rfl hR.1.1.1 hR.1.1.2 (hN _ hml) (hts _ hini) (xCd_of hd) ⟨hR.1.2, hR.2⟩, hy1, hts _ hin⟩ ⟨nBlind, nPre hN hE hK hP hD hS hA⟩ hg rfl hsize hstack hW hdg hcs
/-- behind a constructor: what it made stands at the world's end -/
theorem nCall {st0 : List Value} {a9 : Array Value}
    (hr : va_Run p l e R s m args below meth c H locs cells slots mc ms (F0 m pc ls st0) rest (nQ D cA (va_A [x] H.size) px F a9) (va_A [x] H.size))
    (hP : va_P D vwCl (a ++ [x]) H) (hD : va_D A0 (a ++ [x])) (hS : va_S A0 H0 H locs) (hA : ∀ q, H0.size ≤ q → A0 q)
    (kk : ∀ (u : α), px u → ∀ (H1 : Heap) (locs1 : List Loc), va_P D vwCl (a ++ F u) H1 → va_D A0 (a ++ F u) → va_S A0 H0 H1 locs1 → W p l e R s m args below meth c H1 locs1 (cells + mc) (slots + ms) Q (F0 m (pc + 3) ls rest)) :
    W p l e R s m args below meth c H locs cells slots Q (F0 m pc ls st0) := by
  intro T hT X
  have hC : (mid a.length 1).map (fun i => (a ++ [x])[i]?) = [x].map some := mid_C0 rfl rfl
  have hF := va_free (wc := [x]) hD hS hA _ hC
  obtain ⟨v', st₀, t, T', L, h0, X', hL, e1, e2, ⟨⟨hv, u, hu, hP1, -, hD1⟩, hz, hk⟩, st⟩ := hr T hT X
  cases hv
  rw [h0] at hz hk
  have hxa : (a ++ [x])[a.length]? = some x := by rw [List.getElem?_append_right (Nat.le_refl _), Nat.sub_self]; rfl
  have hai : ∀ (i : Nat) (q : Nat × va_E), a[i]? = some q → (a ++ [x])[i]? = some q := fun i q h => by rw [List.getElem?_append_left (List.getElem?_eq_some_iff.mp h).1]; exact h
  have hne : ∀ (i : Nat) (q : Nat × va_E), a[i]? = some q → q.1 ≠ x.1 ∧ q.1 < H.size := fun i q h => by
    refine ⟨fun he => ?_, (hP i q (hai i q h)).lt⟩
    have h1 := hD.1 i a.length q x (hai i q h) hxa he
    have h2 := (List.getElem?_eq_some_iff.mp h).1
    omega
  have hnA : ∀ (i : Nat) (q : Nat × va_E), a[i]? = some q → ¬ va_A [x] H.size q.1 := fun i q h => by
    obtain ⟨h1, h2⟩ := hne i q h
    rintro (⟨k, e, hke⟩ | hge)
    · cases k with
      | zero => exact h1 (congrArg Prod.fst (Option.some.inj hke)).symm
      | succ k => exact absurd hke (by simp)
    · exact absurd h2 (Nat.not_lt.mpr hge)
  have hPn : va_P D vwCl (a ++ F u) t.heap := fun i q hq => by
    by_cases hi : i < a.length
    · rw [List.getElem?_append_left hi] at hq
      exact (hP i q (hai i q hq)).kept (hk q.1 (hne i q hq).2 (hnA i q hq))
    · rw [List.getElem?_append_right (by omega)] at hq
      exact hP1 _ q hq
  have hDn : va_D A0 (a ++ F u) := by
    refine ⟨fun i j q1 q2 h1 h2 he => ?_, fun i q hq => ?_⟩
    · by_cases hi : i < a.length
      · rw [List.getElem?_append_left hi] at h1
        by_cases hj : j < a.length
        · rw [List.getElem?_append_left hj] at h2
          exact hD.1 i j q1 q2 (hai i q1 h1) (hai j q2 h2) he
        · rw [List.getElem?_append_right (by omega)] at h2
          exact absurd (by rw [he]; exact hD1.2 _ q2 h2) (hnA i q1 h1)
      · rw [List.getElem?_append_right (by omega)] at h1
        by_cases hj : j < a.length
        · rw [List.getElem?_append_left hj] at h2
          exact absurd (by rw [← he]; exact hD1.2 _ q1 h1) (hnA j q2 h2)
        · rw [List.getElem?_append_right (by omega)] at h2
          have := hD1.1 _ _ q1 q2 h1 h2 he
          omega
    · by_cases hi : i < a.length
      · rw [List.getElem?_append_left hi] at hq
        exact hD.2 i q (hai i q hq)
      · rw [List.getElem?_append_right (by omega)] at hq
        exact hF _ (hD1.2 _ q hq)
  obtain ⟨t2, a1, b1⟩ := kk u hu T'.heap (locs ++ L) (by rw [e1]; exact hPn) hDn
    ⟨Nat.le_trans hS.1 (by rw [e1]; exact hz), fun q h1 h2 => by rw [e1, hk q (Nat.lt_of_lt_of_le h1 hS.1) (fun z => h2 (hF q z))]; exact hS.2.1 q h1 h2, fun q hq => by
      rcases List.mem_append.mp hq with h | h
      · exact hS.2.2 q h
      · exact hF _ (hL q h)⟩ T' rfl X'
  exact ⟨t2, st t2 a1, b1⟩
/-- the end -/
theorem nRet {x9 : Nat} {A : Nat → Prop} (u : α) (hx : p.tables.exec = Jvm.exec) (hb : c.code = cc) (hr : meth.sig.returnType = none) (hlocks : meth.locks = false) (hu : px u) (hP : va_P D vwCl (F u) H) (hK : va_K D vwCl (xT cA) s) (hD : va_D A (F u)) (hS : va_S A s.heap H locs) (hdg : decode cc pc = .ok (.return_, 1)) :
    W p l e R s m ([.ref x9] : List Value).toArray below meth c H locs mc ms (nEnd below D cA A px F x9 s mc ms) (F0 m pc ls []) :=
  W.vret hx hb hr (fun t ht hW => ⟨⟨rfl, u, hu, by rw [ht]; exact hP, va_K.moved hW.alike hK, hD⟩, hS.F ht⟩) hS.2.2 hdg hlocks
/-- a new array: of the class that the tables have -/
theorem nNewa (hexec : p.tables.exec = Jvm.exec) (hb : c.code = cc) {atype : ArrayType} {ty : FieldType} (harr : (Cond.arrayClass (newarray.typeOf atype)).before args s = true) (hty : newarray.typeOf atype = ty) (t0 : Nat) {c0 : ClassId} (ht : (xT cA)[t0]? = some (c0, ty)) (hRA : ∀ c d : ClassId, va_RA s c ty → va_RA s d ty → c = d)
    (hK : va_K D vwCl (xT cA) s) (hP : va_P D vwCl ws H) (hD : va_D A0 ws) (hS : va_S A0 H0 H locs) (hA : ∀ q, H0.size ≤ q → A0 q)
    {n : Int32} {N' : Nat} {a0 : vp_A} (ha : ∀ cA : ClassId, vp_cell cA a0 = arrV cA N' (fun _ => defaultValue ty)) (hn : ¬ n < 0) (hN : n.toNatClampNeg = N') (hbytes : N' * componentBytes ty ≤ 536870912) (hcells : cells + 1 ≤ R.cells) (hslots : slots + N' ≤ R.slots) (hdg : decode cc pc = .ok (.newarray atype, 2))
    (kk : ∀ (q : Nat) (H1 : Heap), va_P D vwCl (ws ++ [(q, .inl (c0, a0))]) H1 → va_D A0 (ws ++ [(q, .inl (c0, a0))]) → va_S A0 H0 H1 locs →
      W p l e R s m args below meth c H1 locs (cells + 1) (slots + N') Q (F0 m (pc + 2) ls (.ref q :: rest))) : W p l e R s m args below meth c H locs cells slots Q (F0 m pc ls (.int n :: rest)) := by
  refine va_newa hexec hb harr hty hK hP hD hS hA ha hn hN hbytes hcells hslots hdg fun q c1 H1 hK1 hP1 hD1 hS1 => ?_
  have e : c1 = c0 := hRA _ _ (hK1.2 (xT cA).length (c1, ty) rfl).2 (hK.2 t0 _ ht).2
  subst e
  exact kk q H1 hP1 hD1 hS1
theorem nNewq (hexec : p.tables.exec = Jvm.exec) (hb : c.code = cc) {C : String} (hown : s.vm.findClass own = some m.cls) (hclink : (Cond.classLink own index C).before args s = true) (hover : va_AO C s) (t0 : Nat) {c0 : ClassId} (ht : (xT cA)[t0]? = some (c0, .object C))
    (hK : va_K D vwCl (xT cA) s) (hP : va_P D vwCl ws H) (hD : va_D A0 ws) (hS : va_S A0 H0 H locs) (hA : ∀ q, H0.size ≤ q → A0 q)
    {n : Int32} {N' : Nat} (hn : ¬ n < 0) (hN : n.toNatClampNeg = N') (hbytes : N' * 4 ≤ 536870912) (hcells : cells + 1 ≤ R.cells) (hslots : slots + N' ≤ R.slots) (hdg : decode cc pc = .ok (.anewarray index, 3))
    (kk : ∀ (q : Nat) (H1 : Heap), va_P D vwCl (ws ++ [(q, .inl (c0, N', .inr (.inr (.inr (.inr (fun _ => none))))))]) H1 → va_D A0 (ws ++ [(q, .inl (c0, N', .inr (.inr (.inr (.inr (fun _ => none))))))]) → va_S A0 H0 H1 locs →
      W p l e R s m args below meth c H1 locs (cells + 1) (slots + N') Q (F0 m (pc + 3) ls (.ref q :: rest))) : W p l e R s m args below meth c H locs cells slots Q (F0 m pc ls (.int n :: rest)) := by
  refine va_newq hexec hb hown hclink hover hK hP hD hS hA hn hN hbytes hcells hslots hdg fun q c1 H1 hK1 hP1 hD1 hS1 => ?_
  have e : c1 = c0 := by
    obtain ⟨_, _, _, _, _, h1⟩ := (hK1.2 (xT cA).length (c1, .object C) rfl).2
    obtain ⟨_, _, _, _, _, h2⟩ := (hK.2 t0 _ ht).2
    exact Option.some.inj (h1.symm.trans h2)
  subst e
  exact kk q H1 hP1 hD1 hS1
end NR
theorem nRAi {s : State} (c d : ClassId) (h : va_RA s c .int) (h2 : va_RA s d .int) : c = d := Option.some.inj (h.symm.trans h2)
theorem nRAc {s : State} (c d : ClassId) (h : va_RA s c .char) (h2 : va_RA s d .char) : c = d := Option.some.inj (h.symm.trans h2)
theorem nRAl {s : State} (c d : ClassId) (h : va_RA s c .long) (h2 : va_RA s d .long) : c = d := Option.some.inj (h.symm.trans h2)
theorem nRAb {s : State} (c d : ClassId) (h : va_RA s c .boolean) (h2 : va_RA s d .boolean) : c = d := Option.some.inj (h.symm.trans h2)
theorem nRAd {s : State} (c d : ClassId) (h : va_RA s c .double) (h2 : va_RA s d .double) : c = d := Option.some.inj (h.symm.trans h2)
/-! what stands at the beginning -/
def sA0 : SA := (6, fun k => ([97, 97, 97, 108, 105, 101] : List Int).getD k 0, fun _ => -1, fun k => if k = 0 then 500 else 0, fun k => if k = 3 then 500 else 0)
def sJ0 : SJ := (0, fun _ => 0, fun _ => 0, fun _ => 0, fun _ => 0, fun _ => 0)
def sG0 : SG := (sA0, sJ0, [], [], ([], 0), 0, 0)
def hAt (L : List Nat) : Nat → Nat := fun k => L.getD k 0
