/-! ===== the law's world: parts that stand side by side; the contract of the law's helpers ===== -/
def mid (a n : Nat) : List Nat := (List.range n).map fun j => a + j
theorem mid_C {A B C : va_W} {a n : Nat} (ha : A.length = a) (hn : B.length = n) : (mid a n).map (fun i => (A ++ (B ++ C))[i]?) = B.map some := by
  unfold mid
  rw [List.map_map, ← xId (ws := B), hn]
  apply List.map_congr_left
  intro j hj
  have hj := List.mem_range.mp hj
  show (A ++ (B ++ C))[a + j]? = B[j]?
  rw [← ha, List.getElem?_append_right (Nat.le_add_right _ _), Nat.add_sub_cancel_left, List.getElem?_append_left (by omega)]
theorem mid_in {a n i : Nat} : i ∈ mid a n ↔ a ≤ i ∧ i < a + n := by
  unfold mid
  constructor
  · intro h
    obtain ⟨j, hj, rfl⟩ := List.mem_map.mp h
    have := List.mem_range.mp hj
    omega
  · intro ⟨h1, h2⟩
    exact List.mem_map.mpr ⟨i - a, List.mem_range.mpr (by omega), by omega⟩
theorem mid_H {A B B' C : va_W} {a n : Nat} (ha : A.length = a) (hn : B.length = n) (hn' : B'.length = n) : ∀ (i : Nat) (q : Nat × va_E), (A ++ (B' ++ C))[i]? = some q → (i ∉ mid a n ∧ (A ++ (B ++ C))[i]? = some q) ∨ ∃ k : Nat, (mid a n)[k]? = some i ∧ B'[k]? = some q := by
  intro i q h
  by_cases h1 : i < a
  · rw [List.getElem?_append_left (by omega)] at h
    refine .inl ⟨fun hm => ?_, by rw [List.getElem?_append_left (by omega)]; exact h⟩
    have := mid_in.mp hm
    omega
  · rw [List.getElem?_append_right (by omega)] at h
    by_cases h2 : i < a + n
    · rw [List.getElem?_append_left (by omega)] at h
      refine .inr ⟨i - a, ?_, by rw [← ha]; exact h⟩
      unfold mid
      rw [List.getElem?_map, List.getElem?_range (by omega)]
      show some (a + (i - a)) = some i
      congr 1
      omega
    · rw [List.getElem?_append_right (by omega)] at h
      refine .inl ⟨fun hm => ?_, ?_⟩
      · have := mid_in.mp hm
        omega
      · rw [List.getElem?_append_right (by omega), List.getElem?_append_right (by omega), ha, hn]
        rw [ha, hn'] at h
        exact h
theorem mid_C0 {A B : va_W} {a n : Nat} (ha : A.length = a) (hn : B.length = n) : (mid a n).map (fun i => (A ++ B)[i]?) = B.map some := by
  have h := mid_C (A := A) (B := B) (C := []) ha hn
  rw [List.append_nil] at h
  exact h
theorem mid_H0 {A B B' : va_W} {a n : Nat} (ha : A.length = a) (hn : B.length = n) (hn' : B'.length = n) : ∀ (i : Nat) (q : Nat × va_E), (A ++ B')[i]? = some q → (i ∉ mid a n ∧ (A ++ B)[i]? = some q) ∨ ∃ k : Nat, (mid a n)[k]? = some i ∧ B'[k]? = some q := by
  have h := mid_H (A := A) (B := B) (B' := B') (C := []) ha hn hn'
  rw [List.append_nil, List.append_nil] at h
  exact h
theorem nd_of : ∀ L : List Nat, L.Nodup → va_nd L = true := by
  intro L
  induction L with
  | nil => intro _; rfl
  | cons a l ih =>
    intro h
    have h := List.nodup_cons.mp h
    show (decide (a ∉ l) && va_nd l) = true
    rw [decide_eq_true h.1, ih h.2]
    rfl
theorem mid_nd (a n : Nat) : va_nd (mid a n) = true := by
  apply nd_of
  unfold mid
  exact List.pairwise_map.mpr (List.Pairwise.imp (fun h => by omega) List.nodup_range)
/-- one exception's class is none of the others' -/
def xK (U : State) : Prop := ∀ i j, i < 6 → j < 5 → i ≠ j → va_Nc (xEx (i + 1)) (xEx (j + 1)) U
theorem xK.warm {s U : State} (hW : s.WarmedH U.vm) (h : xK s) : xK U := fun i j a b c => (h i j a b c).moved hW.alike
theorem xK.same {s U : State} (hv : s.vm = U.vm) (h : xK s) : xK U := fun i j a b c => (h i j a b c).moved (by rw [hv]; exact Vm.Alike.refl _)
def hIn (D : va_G) (cA : Nat → ClassId) (ad : Nat → Nat) (ws : va_W) (sz : Nat) : State → Prop := fun U => vIn D cA ad ws sz U ∧ xK U
def hM (l : Launch) (y : MethodName) (bytes : ByteArray) (maxL : Nat) (hh : List (Nat × Nat × Nat × Nat)) (rm : Room) (D : va_G) (cA : Nat → ClassId) (ad : Nat → Nat) (ws : va_W) (sz : Nat) (As : List Value) (v : Option Value) (ws' : va_W) (mc ms : Nat) : Prop :=
  Met l y (.codeWith y bytes maxL (some .int) hh :: xW) rm (va_Pc As (hIn D cA ad ws sz)) (xQ D cA (va_A ws sz) ws' v) mc ms (va_A ws sz)
theorem hBlind {As : List Value} {D : va_G} {cA : Nat → ClassId} {ad : Nat → Nat} {ws : va_W} {sz : Nat} : FrameBlind (va_Pc As (hIn D cA ad ws sz)) := fun a U g mk q => by
  obtain ⟨q0, ⟨⟨⟨q1, qP, qK, qD⟩, qN, qE⟩, qV⟩, qX⟩ := q
  exact ⟨q0, ⟨⟨⟨q1, qP, va_K.moved (u := U) (U := U.calling g mk a) (Vm.Alike.refl U.vm) qK, qD⟩, xN.same (s := U) (U := U.calling g mk a) rfl qN, xE.moved (u := U) (U := U.calling g mk a) (Vm.Alike.refl U.vm) qE⟩, xV.same (s := U) (U := U.calling g mk a) rfl qV⟩, xK.same (s := U) (U := U.calling g mk a) rfl qX⟩
section HB
variable {p : Program} {l : Launch} {e : Env} {R : Room} {s : State} {m : MethodId} {args : Array Value} {below : List Frame} {meth : Method} {c : Code} {H : Heap} {locs : List Loc} {cells slots : Nat} {Q : State → Prop}
theorem hMet {y : MethodName} {bytes : ByteArray} {maxL : Nat} {hh : List (Nat × Nat × Nat × Nat)} {rm : Room} {D : va_G} {cA : Nat → ClassId} {ad : Nat → Nat} {ws : va_W} {sz : Nat} {As : List Value} {v : Option Value} {ws' : va_W} {mc ms : Nat}
    (hy : plainName y.cls = true) (hn : (lg_sl As).length ≤ maxL)
    (body : ∀ p e s m below meth c, p.tables.exec = Jvm.exec → c.code = bytes → meth.sig.returnType = some .int → meth.locks = false → c.maxLocals = maxL → (∀ w ∈ xW, w.before As.toArray s = true) → s.vm.findClass y.cls = some m.cls →
      va_K D vwCl (xT cA) s → va_P D vwCl ws s.heap → ∀ A, A = va_A ws sz → va_D A ws → va_S A s.heap s.heap [] → (∀ q : Nat, s.heap.size ≤ q → A q) → s.heap.size = sz → xN s → xE ad A s s.heap → xV A s s.heap → xK s → c.exceptionTable.toList = tableOf hh →
      ∀ ls, lv_has ls maxL (lv_args 0 As) → W p l e rm s m As.toArray below meth c s.heap [] 0 0 (MQ below (xQ D cA A ws' v) As.toArray s mc ms A) (F0 m 0 ls [])) : hM l y bytes maxL hh rm D cA ad ws sz As v ws' mc ms := by
  unfold hM Met
  refine MetFree.of_bodyS (code := bytes) (maxLocals := maxL) (ret := some .int) hy ?_ ?_
  · intro args s m h hn
    obtain ⟨m9, meth, c, hn9, h1, h2, h3, h4, -, h5, h6, -⟩ := Cond.codeWith_spec (atoms_spec (ws := .codeWith y bytes maxL (some .int) hh :: xW) h _ List.mem_cons_self)
    cases hn.symm.trans hn9
    exact ⟨meth, c, h1, h2, h3, h4, h5, h6⟩
  · intro p e s m args below meth c s₁ B hml hv _
    have hh0 : s₁.heap = s.heap := by rw [B.state]; rfl
    obtain ⟨rfl, ⟨⟨⟨hsz, hP, hK, hD0⟩, hN, hE⟩, hV⟩, hX⟩ := hv
    have hts := atoms_spec (ws := .codeWith y bytes maxL (some .int) hh :: xW) B.pre
    have htab := vx_table (x := y) B (hts _ List.mem_cons_self)
    have hl := lv_entry As (n := maxL) hn
    have hgo : W p l e rm s m As.toArray below meth c s.heap [] 0 0 (MQ below (xQ D cA (va_A ws sz) ws' v) As.toArray s mc ms (va_A ws sz)) (entryFrame m As.toArray maxL) := by
      rw [lg_entry_eq]
      generalize (lg_sl As ++ List.replicate (maxL - (lg_sl As).length) Slot.unset).toArray = ls at hl ⊢
      exact body p e s m below meth c B.exec B.bytes B.returns B.notSynchronized hml (fun w h => hts w (List.mem_cons_of_mem _ h)) (findClass_of_methodNamed B.named) hK hP _ rfl (hD0.self (sz := sz)) va_S.rf (fun q h => Or.inr (by rw [← hsz]; exact h)) hsz hN hE hV hX htab ls hl
    obtain ⟨t, a1, o, b1, b2, b3⟩ := hgo s₁ hh0 (Stand.of_body B)
    exact ⟨t, o, a1, b1, b2, ⟨b3.1, b3.2⟩⟩
end HB
section HR
variable {p : Program} {l : Launch} {e : Env} {R : Room} {s : State} {m : MethodId} {args : Array Value} {below : List Frame} {meth : Method} {c : Code} {H : Heap} {locs : List Loc} {cells slots mc ms : Nat} {Q : State → Prop}
variable {y : MethodName} {bytes cc : ByteArray} {maxL nL n index : Nat} {hh : List (Nat × Nat × Nat × Nat)} {rm : Room} {own : String} {As rest : List Value} {g : JFrame}
  {D : va_G} {cA : Nat → ClassId} {ad : Nat → Nat} {ws wc w1 w2 : va_W} {v : Option Value} {A0 : Nat → Prop}
theorem hRunS (S : CallFix p m c cc nL s args xW own) (hM9 : hM l y bytes maxL hh rm D cA ad wc H.size As v w1 mc ms)
    (hco : Cond.codeWith y bytes maxL (some .int) hh ∈ xW) (hml : Cond.methodLink own index y ∈ xW) (hst : Cond.static y ∈ xW) (hini : Cond.initialized y.cls ∈ xW) (hd : xCd y n = true)
    (hR : (rm.cells == mc && rm.slots == ms && Nat.ble (rm.frames + 1) R.frames && Nat.ble (8 + (maxL + 11) + rm.locals) R.locals) = true)
    (hN : xN s) (hE : xE ad A0 s s.heap) (hV : xV A0 s s.heap) (hX : xK s) (hS : va_S A0 s.heap H locs) (hA : ∀ q, s.heap.size ≤ q → A0 q)
    (hK : va_K D vwCl (xT cA) s) (hP : va_P D vwCl ws H) (hD : va_D A0 ws) (isC : List Nat) (hC : isC.map (fun i => ws[i]?) = wc.map some) (hCn : va_nd isC = true)
    (hg : g.method = m) (hn : As.length = n) (hsize : g.locals.size = nL) (hstack : g.stack = As.reverse ++ rest) (hW : 2 * g.monitorRoom + (rest.map fun v => v.category).sum ≤ 8) (hdg : decode cc g.pc = .ok (.invokestatic index, 3)) (hcs : cells + mc ≤ R.cells ∧ slots + ms ≤ R.slots) :
    va_Run p l e R s m args below meth c H locs cells slots mc ms g rest (xQ D cA (va_A wc H.size) w1 v As.toArray) (va_A wc H.size) := by
  simp only [Bool.and_eq_true, beq_iff_eq, Nat.ble_eq] at hR
  have hts := S.2.2.2.2
  have cb : vx_CSW R s args own index y bytes maxL (some .int) hh (.codeWith y bytes maxL (some .int) hh :: xW) rm mc ms n := by
    refine ⟨⟨hR.1.1.1, hR.1.1.2, hR.1.2, hR.2, ?_, List.mem_cons_self⟩, hts _ hco, hts _ hini, ?_, ?_, hts _ hml, hts _ hst⟩
    · exact pay_in hts (xG hco)
    · have := xCd_of hd
      exact ⟨this.1, this.2.1⟩
    · intro sig h
      have := (xCd_of hd).2.2
      rw [h] at this
      exact (Option.some.inj this).symm
  exact vx_runSW S hM9 cb
    ⟨hBlind, fun U hU hW => ⟨rfl, ⟨zPre hN hE hK hP hD hS hA isC hC hCn U hU hW, hV.pass hS (va_free (wc := wc) hD hS hA isC hC) hU hW⟩, hX.warm hW⟩⟩ hg hn hsize hstack hW hdg hcs
/-- xCallH with cells of the callee's own -/
theorem hCall {H0 : Heap} {pc : Nat} {ls : Array Slot} {st0 : List Value} {a : Array Value}
    (hr : va_Run p l e R s m args below meth c H locs cells slots mc ms (F0 m pc ls st0) rest (xQ D cA (va_A wc H.size) w1 v a) (va_A wc H.size))
    (hP : va_P D vwCl ws H) (hD : va_D A0 ws) (hS : va_S A0 H0 H locs) (hA : ∀ q, H0.size ≤ q → A0 q)
    (isC : List Nat) (hC : isC.map (fun i => ws[i]?) = wc.map some) (ha : w1.map Prod.fst = wc.map Prod.fst)
    (h2 : ∀ (i : Nat) (q : Nat × va_E), w2[i]? = some q → (i ∉ isC ∧ ws[i]? = some q) ∨ ∃ k : Nat, isC[k]? = some i ∧ w1[k]? = some q)
    (kk : ∀ (H1 : Heap) (locs1 : List Loc), va_P D vwCl w2 H1 → va_D A0 w2 → va_S A0 H0 H1 locs1 → W p l e R s m args below meth c H1 locs1 (cells + mc) (slots + ms) Q (F0 m (pc + 3) ls (v.toList ++ rest))) :
    W p l e R s m args below meth c H locs cells slots Q (F0 m pc ls st0) := by
  intro T hT X
  have hF := va_free (wc := wc) hD hS hA isC hC
  obtain ⟨v', st₀, t, T', L, h0, X', hL, e1, e2, ⟨⟨hv, hP1, -, hD1⟩, hz, hk⟩, st⟩ := hr T hT X
  cases hv
  rw [h0] at hz hk
  obtain ⟨hPn, hDn⟩ := xJoinP hP hD isC hC ha h2 hk hP1
  obtain ⟨t2, a1, b1⟩ := kk T'.heap (locs ++ L) (by rw [e1]; exact hPn) hDn
    ⟨Nat.le_trans hS.1 (by rw [e1]; exact hz), fun q h1 h2 => by rw [e1, hk q (Nat.lt_of_lt_of_le h1 hS.1) (fun z => h2 (hF q z))]; exact hS.2.1 q h1 h2, fun q hq => by
      rcases List.mem_append.mp hq with h | h
      · exact hS.2.2 q h
      · exact hF _ (hL q h)⟩ T' rfl X'
  exact ⟨t2, st t2 a1, b1⟩
end HR
