/-! the ordinal of a verb; the row of the switch -/
theorem qord_ml : Cond.methodLink RX12 470 ⟨"TheatreLedger$Verb", "ordinal", "()I"⟩ ∈ xW := xq 1202 (by decide +kernel) (by decide +kernel)
theorem qord_sm : Cond.sameMethod "TheatreLedger$Verb" "java/lang/Enum" "ordinal" "()I" ∈ xW := xq 1203 (by decide +kernel) (by decide +kernel)
theorem qord_se : Cond.selects "TheatreLedger$Verb" ⟨"TheatreLedger$Verb", "ordinal", "()I"⟩ yJx29ce0_ordinal_8abf5 ∈ xW := xq 1205 (by decide +kernel) (by decide +kernel)
theorem qord_in : Cond.instanceMethod yJx29ce0_ordinal_8abf5 ∈ xW := xq 1206 (by decide +kernel) (by decide +kernel)
theorem qord_ini : Cond.initialized "java/lang/Enum" ∈ xW := xq 56 (by decide +kernel) (by decide +kernel)
theorem qord_fl : Cond.fieldLink RJx29ce0 7 "java/lang/Enum" "ordinal" "I" ∈ xW := xq 1549 (by decide +kernel) (by decide +kernel)
theorem qord_co : Cond.code yJx29ce0_ordinal_8abf5 cJx29ce0_ordinal_8abf5 1 (some .int) ∈ xW := xq 1207 (by decide +kernel) (by decide +kernel)
theorem qfs_X12_464 : Cond.fieldLink RX12 464 "TheatreLedger$1" "$SwitchMap$TheatreLedger$Verb" "[I" ∈ xW := xq 1200 (by decide +kernel) (by decide +kernel)
theorem xOrdV : ∀ j, j < 9 → ([0, 1, 2, 3, 4, 5, 6, 7, 8] : List Int32).getD j 0 = Int32.ofNat j := by decide
set_option maxRecDepth 100000 in
set_option maxHeartbeats 4000000 in
theorem kOrd (l : Launch) (D : va_G) (cA : Nat → ClassId) (ad : Nat → Nat) (sz : Nat) {j : Nat} (hj : j < 9) : zM l yJx29ce0_ordinal_8abf5 cJx29ce0_ordinal_8abf5 1 (some .int) ({ frames := 0, cells := 0, slots := 0, locals := 0 } : Room) D cA ad [] sz [.ref (ad (10 + j))] (some (.int (Int32.ofNat j))) [] := by
  generalize erm : ({ frames := 0, cells := 0, slots := 0, locals := 0 } : Room) = rm
  refine zMet (by decide) (Nat.le_of_ble_eq_true rfl) ?_
  intro p e s m below meth c hx hb hr hlocks hml hts hown hin hK hP A eA hD hS hA hsz hN hE ls hl
  have hl : lv_has ls 1 [(0, .ref (ad (10 + j)))] := hl
  clear eA
  refine lv_aload_n hx hb dJx29ce0_ordinal_8abf5_0 rfl (lv_at hl 0 rfl) ?_
  refine vk_getf hx hb (hE.2.1 j hj).2 hS hown (hts _ qord_fl) (fun _ h9 => h9) dJx29ce0_ordinal_8abf5_1 ?_
  have e9 : ([0, 1, 2, 3, 4, 5, 6, 7, 8] : List Int32).getD j 0 = Int32.ofNat j := xOrdV j hj
  show W p l e rm s m _ below meth c s.heap [] 0 0 _ (F0 m 4 ls [.int (([0, 1, 2, 3, 4, 5, 6, 7, 8] : List Int32).getD j 0)])
  rw [e9]
  exact xIret hx hb hr hlocks hP hK hD hS dJx29ce0_ordinal_8abf5_4
section ZO
variable {p : Program} {l : Launch} {e : Env} {R : Room} {s : State} {m : MethodId} {args : Array Value} {below : List Frame} {meth : Method} {c : Code} {H : Heap} {locs : List Loc} {cells slots : Nat} {Q : State → Prop}
variable {cc : ByteArray} {pc nL : Nat} {ls : Array Slot} {rest : List Value} {D : va_G} {cA : Nat → ClassId} {ad : Nat → Nat} {ws : va_W} {A : Nat → Prop}
/-- verb.ordinal() -/
theorem zOrd (S : CallFix p m c cc nL s args xW RX12) (hN : xN s) (hE : xE ad A s s.heap) (hK : va_K D vwCl (xT cA) s) (hP : va_P D vwCl ws H) (hD : va_D A ws) (hS : va_S A s.heap H locs) (hA : ∀ q, s.heap.size ≤ q → A q) {j k : Nat} (hj : j < 9 ∧ k = 10 + j)
    (hR : (Nat.ble 1 R.frames && Nat.ble 20 R.locals) = true) (hsize : ls.size = nL) (hW : 2 * (F0 m pc ls (.ref (ad k) :: rest)).monitorRoom + (rest.map fun v => v.category).sum ≤ 8) (hdg : decode cc pc = .ok (.invokevirtual 470, 3)) (hcs : cells ≤ R.cells ∧ slots ≤ R.slots)
    (kk : ∀ (H1 : Heap) (locs1 : List Loc), va_P D vwCl ws H1 → va_D A ws → va_S A s.heap H1 locs1 → W p l e R s m args below meth c H1 locs1 cells slots Q (F0 m (pc + 3) ls (.int (Int32.ofNat j) :: rest))) :
    W p l e R s m args below meth c H locs cells slots Q (F0 m pc ls (.ref (ad k) :: rest)) := by
  obtain ⟨h1, rfl⟩ := hj
  simp only [Bool.and_eq_true, Nat.ble_eq] at hR
  have hts := S.2.2.2.2
  have hG : GoodIn xW (va_wsU RX12 470 "TheatreLedger$Verb" "java/lang/Enum" ⟨"TheatreLedger$Verb", "ordinal", "()I"⟩ yJx29ce0_ordinal_8abf5 (Cond.code yJx29ce0_ordinal_8abf5 cJx29ce0_ordinal_8abf5 1 (some .int) :: xW)) := by
    have g : ∀ w ∈ xW, w ∈ xW ∧ ((w.onTables && w.keeps) = true ∨ ∃ ty, w = .arrayClass ty) := fun w hw => ⟨hw, good_of_word (List.mem_filter.mp hw).2⟩
    intro w hw
    unfold va_wsU at hw
    rcases List.mem_append.mp hw with hw | hw
    · simp only [List.mem_cons, List.not_mem_nil, or_false] at hw
      rcases hw with rfl | rfl | rfl | rfl | rfl
      · exact g _ qord_ml
      · exact g _ qord_sm
      · exact g _ qord_se
      · exact g _ qord_in
      · exact g _ qord_ini
    · exact xG qord_co w hw
  refine xCallP (D := D) (cA := cA) (wc := []) (w1 := []) (w2 := ws) (v := some (.int (Int32.ofNat j))) (va_runU (n := 0) (As := []) (rest := rest) S (kOrd l D cA ad H.size h1)
    (va_cwU (owner := "java/lang/Enum") 0 hts hG rfl rfl rfl rfl ⟨by decide, by decide, by decide +kernel⟩ ⟨hR.1, hR.2⟩)
    ⟨zBlind, xRecvV (ad := fun i => ad (10 + i)) hE.2.1 (i := j) h1 hS, fun U hU hW => ⟨rfl, zPre hN hE hK hP hD hS hA [] rfl rfl U hU hW⟩⟩ rfl rfl hsize rfl hW hdg ⟨hcs.1, hcs.2⟩) hP hD hS hA [] rfl rfl rfl (by cases ws <;> rfl) kk
end ZO
