/-! constant texts: their length and their characters, by the members of the JDK -/
section ZS
variable {p : Program} {l : Launch} {e : Env} {R : Room} {s : State} {m : MethodId} {args : Array Value} {below : List Frame} {meth : Method} {c : Code} {H : Heap} {locs : List Loc} {cells slots : Nat} {Q : State → Prop}
variable {y : MethodName} {bytes cc : ByteArray} {maxL nL n index : Nat} {ret : Option FieldType} {rm : Room} {own C : String} {b : Addr} {As rest : List Value} {g : JFrame}
  {D : va_G} {cA : Nat → ClassId} {ad : Nat → Nat} {ws wc w1 : va_W} {v : Option Value} {A0 : Nat → Prop}
/-- the receiver given by its cell alone -/
theorem zRunVr (S : CallFix p m c cc nL s args xW own) (hM : zM l y bytes maxL ret rm D cA ad wc H.size (.ref b :: As) v w1)
    (hco : Cond.code y bytes maxL ret ∈ xW) (hml : Cond.methodLink own index y ∈ xW) (hin : Cond.instanceMethod y ∈ xW) (hse : Cond.selects C y y ∈ xW) (hini : Cond.initialized y.cls ∈ xW) (hd : xCd y n = true)
    (hR : (rm.cells == 0 && rm.slots == 0 && Nat.ble (rm.frames + 1) R.frames && Nat.ble (8 + (maxL + 11) + rm.locals) R.locals) = true)
    (hN : xN s) (hE : xE ad A0 s s.heap) (hS : va_S A0 s.heap H locs) (hA : ∀ q, s.heap.size ≤ q → A0 q)
    (hK : va_K D vwCl (xT cA) s) (hP : va_P D vwCl ws H) (hD : va_D A0 ws) (isC : List Nat) (hC : isC.map (fun i => ws[i]?) = wc.map some) (hCn : va_nd isC = true)
    (hrec : ∃ cell : Cell, H[b]? = some cell ∧ cell.vm.isStatics = false ∧ s.vm.findClass C = some cell.cls)
    (hg : g.method = m) (hn : As.length = n) (hsize : g.locals.size = nL) (hstack : g.stack = As.reverse ++ .ref b :: rest) (hW : 2 * g.monitorRoom + (rest.map fun v => v.category).sum ≤ 8) (hdg : decode cc g.pc = .ok (.invokevirtual index, 3)) (hcs : cells ≤ R.cells ∧ slots ≤ R.slots) :
    va_Run p l e R s m args below meth c H locs cells slots 0 0 g rest (xQ D cA (va_A wc H.size) w1 v (Value.ref b :: As).toArray) (va_A wc H.size) := by
  simp only [Bool.and_eq_true, beq_iff_eq, Nat.ble_eq] at hR
  have hts := S.2.2.2.2
  exact va_runV S hM ⟨callB_of n hts (xG hco) rfl hR.1.1.1 hR.1.1.2 (hts _ hini) (hts _ hml) (xCd_of hd) ⟨hR.1.2, hR.2⟩, hts _ hin, hts _ hse⟩
    ⟨zBlind, hrec, fun U hU hW => ⟨rfl, zPre hN hE hK hP hD hS hA isC hC hCn U hU hW⟩⟩ hg hn hsize hstack hW hdg hcs
theorem xE.str (hE : xE ad A0 s s.heap) (hS : va_S A0 s.heap H locs) {i : Nat} (hi : i < 15) : ∃ cell : Cell, H[ad (40 + i)]? = some cell ∧ cell.vm.isStatics = false ∧ s.vm.findClass "java/lang/String" = some cell.cls :=
  vk_recv (adK := fun i => ad (40 + i)) hE.2.2.2.2.2.1 hi hS
theorem xE.coder (hE : xE ad A0 s s.heap) {i : Nat} (hi : i < 15) : va_OF "java/lang/String" "coder" "B" (.int 0) (ad (40 + i)) A0 s s.heap := (hE.2.2.2.2.2.1.1 i hi).2.1
theorem xE.value (hE : xE ad A0 s s.heap) {i : Nat} (hi : i < 15) : va_OF "java/lang/String" "value" "[B" (.ref (ad (60 + i))) (ad (40 + i)) A0 s s.heap := (hE.2.2.2.2.2.1.1 i hi).2.2.1
theorem xE.byt (hE : xE ad A0 s s.heap) {i : Nat} (hi : i < 15) : va_T .byte (ad (60 + i)) (xTln.getD i 0) (fun j => .int ((xTxt.getD i []).getD j 0)) A0 s s.heap := (hE.2.2.2.2.2.1.1 i hi).2.2.2
theorem xE.compact (hE : xE ad A0 s s.heap) : va_Z "java/lang/String" "COMPACT_STRINGS" "Z" (.int 1) A0 s s.heap := hE.2.2.2.2.2.2.1
theorem xE.siobe (hE : xE ad A0 s s.heap) : ∃ o : Option Nat, va_Z "jdk/internal/util/Preconditions" "SIOOBE_FORMATTER" "Ljava/util/function/BiFunction;" (va_rf o) A0 s s.heap := by
  rcases hE.2.2.2.2.2.2.2 with h | ⟨t, h⟩
  · exact ⟨none, h⟩
  · exact ⟨some t, h⟩
end ZS
def xLen (i : Nat) : Int32 := Int32.ofNat (xTln.getD i 0)
def xCh (i k : Nat) : Int32 := (xTxt.getD i []).getD k 0
theorem xLen_sh : ∀ i, i < 15 → xLen i >>> (0 &&& 31) = xLen i := by decide
theorem xCh_and : ∀ i, i < 15 → ∀ k, k < xTln.getD i 0 → ((Int32.toUInt32 (xCh i k &&& 255)) % 65536).toInt32 = xCh i k := by decide
theorem xCh_nar : ∀ i, i < 15 → ∀ k, k < xTln.getD i 0 → narrow .char (.int (xCh i k)) = .int (xCh i k) := by decide
theorem xLen_in : ∀ i, i < 15 → (xLen i).toInt = (xTln.getD i 0 : Int) := by decide
set_option maxRecDepth 100000 in
set_option maxHeartbeats 4000000 in
theorem kJ0_coder (l : Launch) (D : va_G) (cA : Nat → ClassId) (ad : Nat → Nat) (sz : Nat) {i : Nat} (hi : i < 15) : zM l yJ0_coder_7d493 cJ0_coder_7d493 1 (some .byte) ({ frames := 0, cells := 0, slots := 0, locals := 0 } : Room) D cA ad [] sz [.ref (ad (40 + i))] (some (.int 0)) [] := by
  generalize erm : ({ frames := 0, cells := 0, slots := 0, locals := 0 } : Room) = rm
  refine zMet (by decide) (Nat.le_of_ble_eq_true rfl) ?_
  intro p e s m below meth c hx hb hr hlocks hml hts hown hin hK hP A eA hD hS hA hsz hN hE ls hl
  have hl : lv_has ls 1 [(0, .ref (ad (40 + i)))] := hl
  clear eA
  refine va_gets hx hb hE.compact hS hown (hts _ qfl_J0_38) (fun _ h9 => h9) dJ0_coder_7d493_0 ?_
  refine lv_if_eq (tgt := 13) hx hb dJ0_coder_7d493_3 (by decide) (fun c => absurd c (by decide)) (fun _ => ?_)
  refine lv_aload_n hx hb dJ0_coder_7d493_6 rfl (lv_at hl 0 rfl) ?_
  refine vk_getf hx hb (hE.coder hi) hS hown (hts _ qfl_J0_15) (fun _ h9 => h9) dJ0_coder_7d493_7 ?_
  refine lv_goto (tgt := 14) hx hb dJ0_coder_7d493_10 (by decide) ?_
  exact xZret (v := 0) hx hb hr hlocks (by decide) hP hK hD hS dJ0_coder_7d493_14
set_option maxRecDepth 100000 in
set_option maxHeartbeats 4000000 in
theorem kJ0_isLatin1 (l : Launch) (D : va_G) (cA : Nat → ClassId) (ad : Nat → Nat) (sz : Nat) {i : Nat} (hi : i < 15) : zM l yJ0_isLatin1_aae02 cJ0_isLatin1_aae02 1 (some .boolean) ({ frames := 0, cells := 0, slots := 0, locals := 0 } : Room) D cA ad [] sz [.ref (ad (40 + i))] (some (.int 1)) [] := by
  generalize erm : ({ frames := 0, cells := 0, slots := 0, locals := 0 } : Room) = rm
  refine zMet (by decide) (Nat.le_of_ble_eq_true rfl) ?_
  intro p e s m below meth c hx hb hr hlocks hml hts hown hin hK hP A eA hD hS hA hsz hN hE ls hl
  have hl : lv_has ls 1 [(0, .ref (ad (40 + i)))] := hl
  clear eA
  refine va_gets hx hb hE.compact hS hown (hts _ qfl_J0_38) (fun _ h9 => h9) dJ0_isLatin1_aae02_0 ?_
  refine lv_if_eq (tgt := 17) hx hb dJ0_isLatin1_aae02_3 (by decide) (fun c => absurd c (by decide)) (fun _ => ?_)
  refine lv_aload_n hx hb dJ0_isLatin1_aae02_6 rfl (lv_at hl 0 rfl) ?_
  refine vk_getf hx hb (hE.coder hi) hS hown (hts _ qfl_J0_15) (fun _ h9 => h9) dJ0_isLatin1_aae02_7 ?_
  refine lv_if_ne (tgt := 17) hx hb dJ0_isLatin1_aae02_10 (by decide) (fun c => absurd rfl c) (fun _ => ?_)
  refine lv_iconst (v := 1) hx hb dJ0_isLatin1_aae02_13 (by decide) ?_
  refine lv_goto (tgt := 18) hx hb dJ0_isLatin1_aae02_14 (by decide) ?_
  exact xZret (v := 1) hx hb hr hlocks (by decide) hP hK hD hS dJ0_isLatin1_aae02_18
set_option maxRecDepth 100000 in
set_option maxHeartbeats 4000000 in
theorem kJ0_length (l : Launch) (D : va_G) (cA : Nat → ClassId) (ad : Nat → Nat) (sz : Nat) {i : Nat} (hi : i < 15) : zM l yJ0_length_8abf5 cJ0_length_8abf5 1 (some .int) ({ frames := 1, cells := 0, slots := 0, locals := 20 } : Room) D cA ad [] sz [.ref (ad (40 + i))] (some (.int (xLen i))) [] := by
  generalize erm : ({ frames := 1, cells := 0, slots := 0, locals := 20 } : Room) = rm
  refine zMet (by decide) (Nat.le_of_ble_eq_true rfl) ?_
  intro p e s m below meth c hx hb hr hlocks hml hts hown hin hK hP A eA hD hS hA hsz hN hE ls hl
  have hl : lv_has ls 1 [(0, .ref (ad (40 + i)))] := hl
  clear eA
  refine lv_aload_n hx hb dJ0_length_8abf5_0 rfl (lv_at hl 0 rfl) ?_
  refine vk_getf hx hb (hE.value hi) hS hown (hts _ qfl_J0_9) (fun _ h9 => h9) dJ0_length_8abf5_1 ?_
  refine va_tlen (v := xLen i) hx hb (hE.byt hi) hS rfl dJ0_length_8abf5_4 ?_
  refine lv_aload_n hx hb dJ0_length_8abf5_5 rfl (lv_at hl 0 rfl) ?_
  refine xCall (w2 := []) (zRunVr (n := 0) (As := []) (rest := [.int (xLen i)]) ⟨hx, hb, hml, hown, hts⟩ (kJ0_coder l D cA ad _ hi) qco_J0_coder_7d493 qml_J0_335 qin_J0_coder_7d493 qse_J0_coder_7d493 qini_J0 (by decide +kernel) (by rw [← erm]; rfl) hN hE hS hA hK hP hD [] rfl rfl (hE.str hS hi) rfl rfl hl.1 rfl (lv_room (Nat.le_of_ble_eq_true rfl)) dJ0_length_8abf5_6 ⟨Nat.zero_le _, Nat.zero_le _⟩) hP hD hS hA [] [] [] rfl (wr := []) rfl rfl rfl rfl rfl (fun H locs hP hD hS => ?_)
  refine lv_ishr hx hb dJ0_length_8abf5_9 ?_
  rw [xLen_sh i hi]
  exact xIret hx hb hr hlocks hP hK hD hS dJ0_length_8abf5_10
set_option maxRecDepth 100000 in
set_option maxHeartbeats 4000000 in
theorem kJ3_checkIndex (l : Launch) (D : va_G) (cA : Nat → ClassId) (ad : Nat → Nat) (sz : Nat) (a n : Int32) (f : Option Nat) (h1 : ¬ a < 0) (h2 : a < n) : zM l yJ3_checkIndex_8e157 cJ3_checkIndex_8e157 3 (some .int) ({ frames := 0, cells := 0, slots := 0, locals := 0 } : Room) D cA ad [] sz [.int a, .int n, va_rf f] (some (.int a)) [] := by
  generalize erm : ({ frames := 0, cells := 0, slots := 0, locals := 0 } : Room) = rm
  cases f <;> (
    refine zMet (by decide) (Nat.le_of_ble_eq_true rfl) ?_
    intro p e s m below meth c hx hb hr hlocks hml hts hown hin hK hP A eA hD hS hA hsz hN hE ls hl
    have hl : lv_has ls 3 [(0, .int a), (1, .int n)] := lv_sub hl [0, 1] rfl
    clear eA
    refine lv_iload_n hx hb dJ3_checkIndex_8e157_0 rfl (lv_at hl 0 rfl) ?_
    refine lv_if_lt (tgt := 9) hx hb dJ3_checkIndex_8e157_1 (by decide) (fun c => absurd c h1) (fun _ => ?_)
    refine lv_iload_n hx hb dJ3_checkIndex_8e157_4 rfl (lv_at hl 0 rfl) ?_
    refine lv_iload_n hx hb dJ3_checkIndex_8e157_5 rfl (lv_at hl 1 rfl) ?_
    refine lv_icmp_lt (tgt := 16) hx hb dJ3_checkIndex_8e157_6 (by decide) (fun _ => ?_) (fun c => absurd h2 c)
    refine lv_iload_n hx hb dJ3_checkIndex_8e157_16 rfl (lv_at hl 0 rfl) ?_
    exact xIret hx hb hr hlocks hP hK hD hS dJ3_checkIndex_8e157_17)
set_option maxRecDepth 100000 in
set_option maxHeartbeats 4000000 in
theorem kJ0_checkIndex (l : Launch) (D : va_G) (cA : Nat → ClassId) (ad : Nat → Nat) (sz : Nat) (a n : Int32) (h1 : ¬ a < 0) (h2 : a < n) : zM l yJ0_checkIndex_df160 cJ0_checkIndex_df160 2 none ({ frames := 1, cells := 0, slots := 0, locals := 22 } : Room) D cA ad [] sz [.int a, .int n] (none) [] := by
  generalize erm : ({ frames := 1, cells := 0, slots := 0, locals := 22 } : Room) = rm
  refine zMet (by decide) (Nat.le_of_ble_eq_true rfl) ?_
  intro p e s m below meth c hx hb hr hlocks hml hts hown hin hK hP A eA hD hS hA hsz hN hE ls hl
  have hl : lv_has ls 2 [(0, .int a), (1, .int n)] := hl
  clear eA
  obtain ⟨o, hZ⟩ := hE.siobe
  refine lv_iload_n hx hb dJ0_checkIndex_df160_0 rfl (lv_at hl 0 rfl) ?_
  refine lv_iload_n hx hb dJ0_checkIndex_df160_1 rfl (lv_at hl 1 rfl) ?_
  refine va_gets hx hb hZ hS hown (hts _ qfl_J0_1053) (fun _ h9 => h9) dJ0_checkIndex_df160_2 ?_
  refine xCall (w2 := []) (zRunS (n := 3) (As := [.int a, .int n, va_rf o]) (rest := []) ⟨hx, hb, hml, hown, hts⟩ (kJ3_checkIndex l D cA ad _ a n o h1 h2) qco_J3_checkIndex_8e157 qml_J0_1059 qst_J3_checkIndex_8e157 qini_J3 (by decide +kernel) (by rw [← erm]; rfl) hN hE hS hA hK hP hD [] rfl rfl rfl rfl hl.1 rfl (lv_room (Nat.le_of_ble_eq_true rfl)) dJ0_checkIndex_df160_5 ⟨Nat.zero_le _, Nat.zero_le _⟩) hP hD hS hA [] [] [] rfl (wr := []) rfl rfl rfl rfl rfl (fun H locs hP hD hS => ?_)
  refine lv_pop hx hb dJ0_checkIndex_df160_8 rfl ?_
  exact xVret hx hb hr hlocks hP hK hD hS dJ0_checkIndex_df160_9
set_option maxRecDepth 100000 in
set_option maxHeartbeats 4000000 in
theorem kJ1_charAt (l : Launch) (D : va_G) (cA : Nat → ClassId) (ad : Nat → Nat) (sz : Nat) {i : Nat} (hi : i < 15) (a : Int32) (h1 : ¬ a < 0) (h2 : a < xLen i) {k : Nat} (hk : a.toNatClampNeg = k) (hkl : k < xTln.getD i 0) : zM l yJ1_charAt_3b067 cJ1_charAt_3b067 2 (some .char) ({ frames := 2, cells := 0, slots := 0, locals := 43 } : Room) D cA ad [] sz [.ref (ad (60 + i)), .int a] (some (.int (xCh i k))) [] := by
  generalize erm : ({ frames := 2, cells := 0, slots := 0, locals := 43 } : Room) = rm
  refine zMet (by decide) (Nat.le_of_ble_eq_true rfl) ?_
  intro p e s m below meth c hx hb hr hlocks hml hts hown hin hK hP A eA hD hS hA hsz hN hE ls hl
  have hl : lv_has ls 2 [(0, .ref (ad (60 + i))), (1, .int a)] := hl
  clear eA
  refine lv_iload_n hx hb dJ1_charAt_3b067_0 rfl (lv_at hl 1 rfl) ?_
  refine lv_aload_n hx hb dJ1_charAt_3b067_1 rfl (lv_at hl 0 rfl) ?_
  refine va_tlen (v := xLen i) hx hb (hE.byt hi) hS rfl dJ1_charAt_3b067_2 ?_
  refine xCall (w2 := []) (zRunS (n := 2) (As := [.int a, .int (xLen i)]) (rest := []) ⟨hx, hb, hml, hown, hts⟩ (kJ0_checkIndex l D cA ad _ a (xLen i) h1 h2) qco_J0_checkIndex_df160 qml_J1_9 qst_J0_checkIndex_df160 qini_J0 (by decide +kernel) (by rw [← erm]; rfl) hN hE hS hA hK hP hD [] rfl rfl rfl rfl hl.1 rfl (lv_room (Nat.le_of_ble_eq_true rfl)) dJ1_charAt_3b067_3 ⟨Nat.zero_le _, Nat.zero_le _⟩) hP hD hS hA [] [] [] rfl (wr := []) rfl rfl rfl rfl rfl (fun H locs hP hD hS => ?_)
  refine lv_aload_n hx hb dJ1_charAt_3b067_6 rfl (lv_at hl 0 rfl) ?_
  refine lv_iload_n hx hb dJ1_charAt_3b067_7 rfl (lv_at hl 1 rfl) ?_
  refine va_tb (v := .int (xCh i k)) hx hb (hE.byt hi) hS (fun q => q.elim h1 (fun q => by omega)) (by rw [hk]; rfl) dJ1_charAt_3b067_8 ?_
  refine lv_sipush (v := 255) hx hb dJ1_charAt_3b067_9 (by decide) ?_
  refine lv_iand hx hb dJ1_charAt_3b067_12 ?_
  refine lv_i2c (v := xCh i k) hx hb dJ1_charAt_3b067_13 (xCh_and i hi k hkl) ?_
  exact xZret hx hb hr hlocks (xCh_nar i hi k hkl) hP hK hD hS dJ1_charAt_3b067_14
set_option maxRecDepth 100000 in
set_option maxHeartbeats 4000000 in
theorem kJ0_charAt (l : Launch) (D : va_G) (cA : Nat → ClassId) (ad : Nat → Nat) (sz : Nat) {i : Nat} (hi : i < 15) (a : Int32) (h1 : ¬ a < 0) (h2 : a < xLen i) {k : Nat} (hk : a.toNatClampNeg = k) (hkl : k < xTln.getD i 0) : zM l yJ0_charAt_5068e cJ0_charAt_5068e 2 (some .char) ({ frames := 3, cells := 0, slots := 0, locals := 64 } : Room) D cA ad [] sz [.ref (ad (40 + i)), .int a] (some (.int (xCh i k))) [] := by
  generalize erm : ({ frames := 3, cells := 0, slots := 0, locals := 64 } : Room) = rm
  refine zMet (by decide) (Nat.le_of_ble_eq_true rfl) ?_
  intro p e s m below meth c hx hb hr hlocks hml hts hown hin hK hP A eA hD hS hA hsz hN hE ls hl
  have hl : lv_has ls 2 [(0, .ref (ad (40 + i))), (1, .int a)] := hl
  clear eA
  refine lv_aload_n hx hb dJ0_charAt_5068e_0 rfl (lv_at hl 0 rfl) ?_
  refine xCall (w2 := []) (zRunVr (n := 0) (As := []) (rest := []) ⟨hx, hb, hml, hown, hts⟩ (kJ0_isLatin1 l D cA ad _ hi) qco_J0_isLatin1_aae02 qml_J0_492 qin_J0_isLatin1_aae02 qse_J0_isLatin1_aae02 qini_J0 (by decide +kernel) (by rw [← erm]; rfl) hN hE hS hA hK hP hD [] rfl rfl (hE.str hS hi) rfl rfl hl.1 rfl (lv_room (Nat.le_of_ble_eq_true rfl)) dJ0_charAt_5068e_1 ⟨Nat.zero_le _, Nat.zero_le _⟩) hP hD hS hA [] [] [] rfl (wr := []) rfl rfl rfl rfl rfl (fun H locs hP hD hS => ?_)
  refine lv_if_eq (tgt := 16) hx hb dJ0_charAt_5068e_4 (by decide) (fun c => absurd c (by decide)) (fun _ => ?_)
  refine lv_aload_n hx hb dJ0_charAt_5068e_7 rfl (lv_at hl 0 rfl) ?_
  refine vk_getf hx hb (hE.value hi) hS hown (hts _ qfl_J0_9) (fun _ h9 => h9) dJ0_charAt_5068e_8 ?_
  refine lv_iload_n hx hb dJ0_charAt_5068e_11 rfl (lv_at hl 1 rfl) ?_
  refine xCall (w2 := []) (zRunS (n := 2) (As := [.ref (ad (60 + i)), .int a]) (rest := []) ⟨hx, hb, hml, hown, hts⟩ (kJ1_charAt l D cA ad _ hi a h1 h2 hk hkl) qco_J1_charAt_3b067 qml_J0_495 qst_J1_charAt_3b067 qini_J1 (by decide +kernel) (by rw [← erm]; rfl) hN hE hS hA hK hP hD [] rfl rfl rfl rfl hl.1 rfl (lv_room (Nat.le_of_ble_eq_true rfl)) dJ0_charAt_5068e_12 ⟨Nat.zero_le _, Nat.zero_le _⟩) hP hD hS hA [] [] [] rfl (wr := []) rfl rfl rfl rfl rfl (fun H locs hP hD hS => ?_)
  exact xZret hx hb hr hlocks (xCh_nar i hi k hkl) hP hK hD hS dJ0_charAt_5068e_15
set_option maxRecDepth 100000 in
set_option maxHeartbeats 4000000 in
theorem xZz : True := trivial
/-- what the two members compute, from the code of a text -/
def fJ0_length_8abf5 (N : Nat) (c : Nat) : Option Int32 := if 40 ≤ c ∧ c < 55 then some (xLen (c - 40)) else none
def fJ0_charAt_5068e (N : Nat) (c : Nat) (a : Int32) : Option Int32 := if (40 ≤ c ∧ c < 55) ∧ 0 ≤ a ∧ a < xLen (c - 40) then some (xCh (c - 40) a.toNatClampNeg) else none
theorem fJ0_len {N c : Nat} {q : Int32} (h : fJ0_length_8abf5 N c = some q) : ∃ i, i < 15 ∧ c = 40 + i ∧ q = xLen i := by
  unfold fJ0_length_8abf5 at h
  split at h
  · rename_i hc
    exact ⟨c - 40, by omega, by omega, (Option.some.inj h).symm⟩
  · cases h
theorem fJ0_ch {N c : Nat} {a q : Int32} (h : fJ0_charAt_5068e N c a = some q) : ∃ i k, i < 15 ∧ c = 40 + i ∧ q = xCh i k ∧ (¬ a < 0) ∧ a < xLen i ∧ a.toNatClampNeg = k ∧ k < xTln.getD i 0 := by
  unfold fJ0_charAt_5068e at h
  split at h
  · rename_i hc
    refine ⟨c - 40, _, by omega, by omega, (Option.some.inj h).symm, Int32.not_lt.mpr hc.2.1, hc.2.2, rfl, ?_⟩
    have h1 := Int32.lt_iff_toInt_lt.mp hc.2.2
    have h2 : 0 ≤ a.toInt := by
      have h9 := Int32.le_iff_toInt_le.mp hc.2.1
      simpa using h9
    rw [xLen_in _ (by omega)] at h1
    have h3 : (a.toNatClampNeg : Int) = a.toInt := Int.toNat_of_nonneg h2
    omega
  · cases h
theorem kJ0_length_8abf5 (l : Launch) (D : va_G) (cA : Nat → ClassId) (ad : Nat → Nat) (sz N : Nat) (a0 : Nat) (q : Int32) (h : fJ0_length_8abf5 N a0 = some q) : zM l yJ0_length_8abf5 cJ0_length_8abf5 1 (some .int) ({ frames := 1, cells := 0, slots := 0, locals := 20 } : Room) D cA ad [] sz [.ref (ad a0)] (some (.int q)) [] := by
  obtain ⟨i, hi, rfl, rfl⟩ := fJ0_len h
  exact kJ0_length l D cA ad sz hi
theorem kJ0_charAt_5068e (l : Launch) (D : va_G) (cA : Nat → ClassId) (ad : Nat → Nat) (sz N : Nat) (a0 : Nat) (a1 : Int32) (q : Int32) (h : fJ0_charAt_5068e N a0 a1 = some q) : zM l yJ0_charAt_5068e cJ0_charAt_5068e 2 (some .char) ({ frames := 3, cells := 0, slots := 0, locals := 64 } : Room) D cA ad [] sz [.ref (ad a0), .int a1] (some (.int q)) [] := by
  obtain ⟨i, k, hi, rfl, rfl, h1, h2, hk, hkl⟩ := fJ0_ch h
  exact kJ0_charAt l D cA ad sz hi a1 h1 h2 hk hkl
theorem rJ0_length_8abf5 {ad : Nat → Nat} {A0 : Nat → Prop} {s : State} {H : Heap} {locs : List Loc} (hE : xE ad A0 s s.heap) (hS : va_S A0 s.heap H locs) {N c : Nat} {q : Int32} (h : fJ0_length_8abf5 N c = some q) : ∃ cell : Cell, H[ad c]? = some cell ∧ cell.vm.isStatics = false ∧ s.vm.findClass "java/lang/String" = some cell.cls := by
  obtain ⟨i, hi, rfl, -⟩ := fJ0_len h
  exact hE.str hS hi
theorem rJ0_charAt_5068e {ad : Nat → Nat} {A0 : Nat → Prop} {s : State} {H : Heap} {locs : List Loc} (hE : xE ad A0 s s.heap) (hS : va_S A0 s.heap H locs) {N c : Nat} {a q : Int32} (h : fJ0_charAt_5068e N c a = some q) : ∃ cell : Cell, H[ad c]? = some cell ∧ cell.vm.isStatics = false ∧ s.vm.findClass "java/lang/String" = some cell.cls := by
  obtain ⟨i, k, hi, rfl, -⟩ := fJ0_ch h
  exact hE.str hS hi
