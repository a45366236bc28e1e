/-! ===== the start: the surroundings of the calls, put together ===== -/
theorem sOne {args : Array Value} {s : State} {A : Nat → Prop} {T : Term} {n : Nat} {bs : List Int32} (hn : n < 2 ^ 31) (h1 : (Cond.exactly T "java/lang/String").before args s = true) (h2 : (Cond.eq (.field T "java/lang/String" "coder" "B") (.int 0)).before args s = true)
    (h3 : (Cond.arrayOf (.field T "java/lang/String" "value" "[B") .byte).before args s = true) (h4 : (Cond.eq (.length (.field T "java/lang/String" "value" "[B")) (.int (Int32.ofNat n))).before args s = true)
    (h5 : ∀ j, j < n → (Cond.eq (.elem (.field T "java/lang/String" "value" "[B") (.int (Int32.ofNat j))) (.int (bs.getD j 0))).before args s = true) (hA : ∀ a : Nat, a < s.heap.size → ¬ A a) :
    ∃ q : Nat × Nat, T.eval args s none [] s = some (.ref q.1) ∧ va_O "java/lang/String" q.1 A s s.heap ∧ va_OF "java/lang/String" "coder" "B" (.int 0) q.1 A s s.heap ∧ va_OF "java/lang/String" "value" "[B" (.ref q.2) q.1 A s s.heap ∧ va_T .byte q.2 n (fun j => .int (bs.getD j 0)) A s s.heap := by
  obtain ⟨aK, aB, hS, eS⟩ := vk_Sof (N := 1) (tm := fun _ => T) (len := [n]) (byt := [bs]) (A := A) (args := args) (s := s)
    (fun i hi => by
      obtain rfl : i = 0 := by omega
      exact hn)
    (fun _ _ => h1) (fun _ _ => h2) (fun _ _ => h3)
    (fun i hi => by
      obtain rfl : i = 0 := by omega
      exact h4)
    (fun i hi j hj => by
      obtain rfl : i = 0 := by omega
      exact h5 j hj)
    (fun i j hi hj hne => absurd (show i = j by omega) hne) hA
  exact ⟨(aK 0, aB 0), eS 0 (by decide), hS.1 0 (by decide)⟩
theorem sDist {A : Nat → Prop} {s : State} {H : Heap} {k v1 v2 n1 n2 : Nat} {f1 f2 : Nat → Value} (h1 : va_OF "java/lang/String" "value" "[B" (.ref v1) k A s H) (h2 : va_OF "java/lang/String" "value" "[B" (.ref v2) k A s H) (t1 : va_T .byte v1 n1 f1 A s H) (t2 : va_T .byte v2 n2 f2 A s H) : Int32.ofNat n1 = Int32.ofNat n2 ∧ ∀ j, j < n1 → j < n2 → f1 j = f2 j := by
  obtain ⟨cf, kf, i, f, cell, a1, a2, a3, a4, a5, a6⟩ := h1
  obtain ⟨cf', kf', i', f', cell', b1, b2, b3, b4, b5, b6⟩ := h2
  have e := Option.some.inj (a1.symm.trans b1)
  have ef : f = f' := congrArg (fun q => q.2.2.2) e
  subst ef
  have ec : cell = cell' := Option.some.inj (a3.symm.trans b3)
  subst ec
  have ev := Option.some.inj (a5.symm.trans b5)
  have ev : v1 = v2 := Value.ref.inj ev
  subst ev
  obtain ⟨c1, x1, x2, x3, x4, x5, x6, x7⟩ := t1
  obtain ⟨c2, y1, y2, y3, y4, y5, y6, y7⟩ := t2
  have ec : c1 = c2 := Option.some.inj (x1.symm.trans y1)
  subst ec
  exact ⟨x5.symm.trans y5, fun j h1 h2 => Option.some.inj ((x6 j h1).symm.trans (y6 j h2))⟩
theorem sDiff_all : (List.range 15).all (fun i => (List.range 15).all (fun j => decide (i = j) || (decide (¬ Int32.ofNat (xTln.getD i 0) = Int32.ofNat (xTln.getD j 0)) || (List.range 8).any (fun k => decide (k < xTln.getD i 0) && decide (k < xTln.getD j 0) && decide (¬ (xTxt.getD i []).getD k 0 = (xTxt.getD j []).getD k 0))))) = true := by decide +kernel
theorem sLen_all : (List.range 15).all (fun i => decide (xTln.getD i 0 < 2 ^ 31)) = true := by decide +kernel
theorem env_S {args : Array Value} {s : State} {A : Nat → Prop} (hg : narrow_1.before args s = true) (hA : ∀ a : Nat, a < s.heap.size → ¬ A a) : ∃ aK aB : Nat → Nat, vk_S 15 xTln xTxt aK aB A s s.heap ∧ ∀ i, i < 15 → (Term.string "TheatreLedger$Verb" (xKs.getD i 0)).eval args s none [] s = some (.ref (aK i)) := by
  have h0 : ∀ i : Nat, ∃ q : Nat × Nat, i < 15 → (Term.string "TheatreLedger$Verb" (xKs.getD i 0)).eval args s none [] s = some (.ref q.1) ∧ va_O "java/lang/String" q.1 A s s.heap ∧ va_OF "java/lang/String" "coder" "B" (.int 0) q.1 A s s.heap ∧ va_OF "java/lang/String" "value" "[B" (.ref q.2) q.1 A s s.heap ∧ va_T .byte q.2 (xTln.getD i 0) (fun j => .int ((xTxt.getD i []).getD j 0)) A s s.heap := by
    intro i
    by_cases hi : i < 15
    · obtain ⟨q, h⟩ := sOne (T := .string "TheatreLedger$Verb" (xKs.getD i 0)) (n := xTln.getD i 0) (bs := xTxt.getD i []) (A := A) (of_decide_eq_true (List.all_eq_true.mp sLen_all i (List.mem_range.mpr hi))) (pkA n_Sx hg i hi) (pkA n_Sc hg i hi) (pkA n_Sa hg i hi) (pkA n_Sl hg i hi) (pkE n_Se hg i hi) hA
      exact ⟨q, fun _ => h⟩
    · exact ⟨(0, 0), fun h => absurd h hi⟩
  obtain ⟨f, hf⟩ := Classical.axiomOfChoice h0
  refine ⟨fun i => (f i).1, fun i => (f i).2, ⟨fun i hi => (hf i hi).2, fun i j hi hj e => ?_⟩, fun i hi => (hf i hi).1⟩
  have e : (f i).1 = (f j).1 := e
  have h1 := List.all_eq_true.mp (List.all_eq_true.mp sDiff_all i (List.mem_range.mpr hi)) j (List.mem_range.mpr hj)
  obtain ⟨_, _, _, o1, t1⟩ := hf i hi
  obtain ⟨_, _, _, o2, t2⟩ := hf j hj
  rw [e] at o1
  obtain ⟨d1, d2⟩ := sDist o1 o2 t1 t2
  simp only [Bool.or_eq_true, decide_eq_true_eq, List.any_eq_true, Bool.and_eq_true] at h1
  rcases h1 with h1 | h1 | ⟨k, -, ⟨h1, h2⟩, h3⟩
  · exact h1
  · exact absurd d1 h1
  · exact absurd (Value.int.inj (d2 k h1 h2)) h3
theorem va_En.cong {E d : String} {nm : List String} {F : List (String × String × String × List Int32)} {a b : Nat → Nat} {A : Nat → Prop} {U : State} {H : Heap} (h : va_En E d nm F a A U H) (e : ∀ i, i < nm.length → b i = a i) : va_En E d nm F b A U H :=
  ⟨fun i hi => by rw [e i hi]; exact h.1 i hi, fun i j hi hj hh => h.2 i j hi hj (by rw [← e i hi, ← e j hj]; exact hh)⟩
theorem vk_S.cong {N : Nat} {len : List Nat} {byt : List (List Int32)} {a b a' b' : Nat → Nat} {A : Nat → Prop} {U : State} {H : Heap} (h : vk_S N len byt a b A U H) (e1 : ∀ i, i < N → a' i = a i) (e2 : ∀ i, i < N → b' i = b i) : vk_S N len byt a' b' A U H :=
  ⟨fun i hi => by rw [e1 i hi, e2 i hi]; exact h.1 i hi, fun i j hi hj hh => h.2 i j hi hj (by rw [← e1 i hi, ← e1 j hj]; exact hh)⟩
def adM (aF aV aS aB : Nat → Nat) (tV tW : Nat) : Nat → Nat := fun k => if k < 10 then aF k else if k < 30 then aV (k - 10) else if k < 31 then tV else if k < 40 then tW else if k < 60 then aS (k - 40) else aB (k - 60)
section AD
variable {aF aV aS aB : Nat → Nat} {tV tW : Nat}
theorem ad_F {i : Nat} (h : i < 10) : adM aF aV aS aB tV tW i = aF i := if_pos h
theorem ad_V {i : Nat} (h : i < 20) : adM aF aV aS aB tV tW (10 + i) = aV i := by
  unfold adM
  rw [if_neg (by omega), if_pos (by omega), Nat.add_sub_cancel_left]
theorem ad_S {i : Nat} (h : i < 20) : adM aF aV aS aB tV tW (40 + i) = aS i := by
  unfold adM
  rw [if_neg (by omega), if_neg (by omega), if_neg (by omega), if_neg (by omega), if_pos (by omega), Nat.add_sub_cancel_left]
theorem ad_B {i : Nat} : adM aF aV aS aB tV tW (60 + i) = aB i := by
  unfold adM
  rw [if_neg (by omega), if_neg (by omega), if_neg (by omega), if_neg (by omega), if_neg (by omega), Nat.add_sub_cancel_left]
end AD
theorem xForm_lt : ∀ j, j < 9 → xForm.getD j 0 < 15 := by decide
theorem env_E {args : Array Value} {s : State} {A : Nat → Prop} (hts : ∀ w ∈ lw_tbl, w.before args s = true) (hg : narrow_1.before args s = true) (hA : ∀ a : Nat, a < s.heap.size → ¬ A a) : ∃ ad, xE ad A s s.heap := by
  have tw : ∀ {k : Nat} {w : Cond}, lw_tbl[k]? = some w → w.before args s = true := fun h => hts _ (List.mem_of_getElem? h)
  obtain ⟨aF, hF⟩ := va_Enof (E := "TheatreLedger$Fault") (d := "LTheatreLedger$Fault;") (nm := xFn) (F := []) (A := A) (args := args) (s := s) (tbA n_Fl hts) (tw n_IF) (pkA n_Fx hg) (fun q hq => nomatch hq) (pkD n_Fd hg) hA
  have hV0 : ∀ i : Nat, ∃ a : Nat, i < 9 → (Term.static "TheatreLedger$Verb" (xVn.getD i "") "LTheatreLedger$Verb;").eval args s none [] s = some (.ref a) ∧ va_O "TheatreLedger$Verb" a A s s.heap := by
    intro i
    by_cases hi : i < 9
    · obtain ⟨a, c, cell, k, q1, q2, q3, q4, q5, q6, -⟩ := Cond.exactly_spec (pkA n_Vx hg i hi)
      exact ⟨a, fun _ => ⟨q1, cell, q3, q5, by rw [q6]; exact q2, hA a (Array.getElem?_eq_some_iff.mp q3).1⟩⟩
    · exact ⟨0, fun h => absurd h hi⟩
  obtain ⟨aV, hV⟩ := Classical.axiomOfChoice hV0
  obtain ⟨aS, aB, hS, eS⟩ := env_S (A := A) hg hA
  have e9 : (Term.length (.static "TheatreLedger" "VERBS" "[LTheatreLedger$Verb;")).eval args s none [] s = some (.int (Int32.ofNat 9)) := Cond.eq_int (pkb n_Bl hg) rfl
  obtain ⟨tV, eV, hTV⟩ := va_Tof (N := 9) (f := fun j => .ref (aV j)) (A := A) (by decide) (pkb n_Ba hg) e9 (fun j hj => Cond.eq_refs (pkA n_Be hg j hj) (hV j hj).1 rfl) hA
  have e8 : (Term.length (.static "TheatreLedger$1" "$SwitchMap$TheatreLedger$Verb" "[I")).eval args s none [] s = some (.int (Int32.ofNat 9)) := Cond.eq_int (pkb n_Wl hg) rfl
  obtain ⟨tW, eW, hTW⟩ := va_Tof (N := 9) (f := fun j => .int (Int32.ofNat (j + 1))) (A := A) (by decide) (pkb n_Wa hg) e8 (fun j hj => Cond.eq_int (pkA n_We hg j hj) rfl) hA
  refine ⟨adM aF aV aS aB tV tW, hF.cong (fun i hi => ad_F (show i < 10 from Nat.lt_trans hi (by decide))), fun i hi => ?_, fun j hj => ?_, ⟨va_Zof (tw n_LV) (tw n_IL) eV hA, ?_⟩, ⟨va_Zof (tw n_LW) (tw n_I1) eW hA, hTW⟩, hS.cong (fun i hi => ad_S (by omega)) (fun i hi => ad_B), va_Zof (tw n_LC) (tw n_IS) (va_eqi (pkb n_C hg)) hA, va_Zqof (tw n_LP) (tw n_IP) (pkb n_P hg) hA⟩
  · dsimp only
    rw [ad_V (i := i) (by omega)]
    exact ⟨(hV i hi).2, vk_OFof (hV i hi).1 (Cond.eq_int (pkA n_Vo hg i hi) rfl) hA⟩
  · have hf := xForm_lt j hj
    rw [ad_V (i := j) (by omega), ad_S (i := j) (by omega), ad_S (i := xForm.getD j 0) (by omega)]
    exact ⟨vk_OFof (hV j hj).1 (Cond.eq_refs (pkA n_Vw hg j hj) (eS j (by omega)) rfl) hA, vk_OFof (hV j hj).1 (Cond.eq_refs (pkA n_Vf hg j hj) (eS _ (xForm_lt j hj)) rfl) hA⟩
  · obtain ⟨cell, h1, h2, h3, h4, h5, h6, h7⟩ := hTV
    exact ⟨cell, h1, h2, h3, h4, h5, fun j hj => by
      show cell.slots[j]? = some (.ref (adM aF aV aS aB tV tW (10 + j)))
      rw [ad_V (i := j) (by omega)]
      exact h6 j hj, h7⟩
theorem env_N {args : Array Value} {s : State} {A : Nat → Prop} (hts : ∀ w ∈ lw_tbl, w.before args s = true) (hg : narrow_1.before args s = true) (hA : ∀ a : Nat, a < s.heap.size → ¬ A a) : ∃ an, nE an A s s.heap := by
  have tw : ∀ {k : Nat} {w : Cond}, lw_tbl[k]? = some w → w.before args s = true := fun h => hts _ (List.mem_of_getElem? h)
  obtain ⟨q, e1, e2, e3, e4, e5⟩ := sOne (T := .string "TheatreLedger$Accounts" 26) (n := 6) (bs := [97, 97, 97, 108, 105, 101]) (A := A) (args := args) (s := s) (by decide) (pkA n_Ax hg 0 (by decide)) (pkA n_Ac hg 0 (by decide)) (pkA n_Aa hg 0 (by decide)) (pkA n_Al hg 0 (by decide)) (pkE n_Ae hg 0 (by decide)) hA
  refine ⟨fun k => if k = 0 then q.1 else q.2, ⟨⟨fun i hi => ?_, fun i j hi hj _ => by omega⟩, va_Zof (tw n_LC) (tw n_IS) (va_eqi (pkb n_C hg)) hA, va_Zqof (tw n_LP) (tw n_IP) (pkb n_P hg) hA⟩, vk_R.of (tw n_LA) e1, va_AO.of (tw n_OB), va_AO.of (tw n_OV)⟩
  obtain rfl : i = 0 := by omega
  exact ⟨e2, e3, e4, e5⟩
theorem strR {args : Array Value} {s : State} {own tx : String} {k : Nat} {cur : ClassId} (hcur : s.vm.findClass own = some cur) (h : (Cond.stringRef own k tx).before args s = true) : ∃ a, vk_R own k tx a s := by
  obtain ⟨_, _, _, a, -, -, -, -, -, hev⟩ := Cond.stringRef_spec hcur h
  exact ⟨a, vk_R.of h hev⟩
theorem env_V {args : Array Value} {s : State} {A : Nat → Prop} {cur : ClassId} (hcur : s.vm.findClass "TheatreLedger" = some cur) (hts : ∀ w ∈ lw_tbl, w.before args s = true) (hg : narrow_1.before args s = true) (hA : ∀ a : Nat, a < s.heap.size → ¬ A a) : xV A s s.heap := by
  have tw : ∀ {k : Nat} {w : Cond}, lw_tbl[k]? = some w → w.before args s = true := fun h => hts _ (List.mem_of_getElem? h)
  refine ⟨⟨vx_Zqof (tw n_L1) (tw n_IT) (pkb n_T1 hg) hA, vx_Zqof (tw n_L2) (tw n_IT) (pkb n_T2 hg) hA⟩, fun t ht => ?_⟩
  have e : xTx = (List.range 23).map fun i => xTx.getD i (0, "") := rfl
  rw [e] at ht
  obtain ⟨i, hi, rfl⟩ := List.mem_map.mp ht
  exact strR hcur (tbA n_R hts i (List.mem_range.mp hi))
theorem env_X {args : Array Value} {s : State} (hg : narrow_1.before args s = true) : xK s := fun i j hi hj hne => va_Nc.of (args := args) (pkX n_X hg i j hi hj hne)
theorem env_xN {args : Array Value} {s : State} (hts : ∀ w ∈ lw_tbl, w.before args s = true) : xN s := xN.of (args := args) fun w hw => hts w (List.mem_append_right _ (List.mem_filter.mp hw).1)
theorem iJ0 : ∀ w ∈ u_ws RJ0 TJ0 2, w ∈ xW := xqs _ [1383, 1385] (by decide +kernel) (by decide +kernel)
theorem iJx : ∀ w ∈ u_ws RJx00060 TJx00060 6, w ∈ xW := xqs _ [1371, 1372, 1373, 1374, 1375, 1376] (by decide +kernel) (by decide +kernel)
theorem qit_J0 : Cond.instantiable RJ0 4 ∈ xW := xq 1382 (by decide +kernel) (by decide +kernel)
theorem qit_Jx : Cond.instantiable RJx00060 6 ∈ xW := xq 1367 (by decide +kernel) (by decide +kernel)
theorem arrK {args : Array Value} {s : State} {ty : FieldType} (hq : ∀ C, ty ≠ .object C) (h : (Cond.arrayClass ty).before args s = true) : ∃ c : ClassId, ArrOfT s c ty ∧ va_RA s c ty := by
  obtain ⟨c, k, comp, h1, h2, h3⟩ := Cond.arrayClass_spec h
  refine ⟨c, fun n z => ⟨fun k h => (by cases h), k, h2, comp, h3⟩, ?_⟩
  cases ty with
  | object C => exact absurd rfl (hq C)
  | _ => exact h1
theorem arrQ {args : Array Value} {s : State} {C : String} (h : (Cond.arrayOver (.object C)).before args s = true) : ∃ c : ClassId, ArrOfT s c (.object C) ∧ va_RA s c (.object C) := by
  obtain ⟨comp, c, k, h1, h2, h3, h4, h5⟩ := Cond.arrayOver_spec h
  exact ⟨c, fun n z => ⟨fun k h => (by cases h), k, h3, comp, h4⟩, k, comp, h3, h4, h1, h5⟩
theorem env_K {args : Array Value} {s : State} (hts : ∀ w ∈ xW, w.before args s = true) (hOB : (Cond.arrayOver (.object "TheatreLedger$Books")).before args s = true) (hOV : (Cond.arrayOver (.object "TheatreLedger$Verb")).before args s = true) : ∃ (D : va_G) (cA : Nat → ClassId), va_K D vwCl (xT cA) s := by
  have h0 : ∀ k : Nat, ∃ q : ClassId × (Nat → Nat), ∀ r : vw_C, vwCl[k]? = some r → u_Kn s r.1 r.2.1 r.2.2 q.1 q.2 := by
    have go : ∀ {C : String} {T : u_T} {N n : Nat}, (∀ w ∈ u_ws C T N, w ∈ xW) → Cond.instantiable C n ∈ xW → ∃ q : ClassId × (Nat → Nat), ∀ r : vw_C, some (C, T, N) = some r → u_Kn s r.1 r.2.1 r.2.2 q.1 q.2 := by
      intro C T N n h1 h2
      obtain ⟨c, i, h⟩ := u_known hts h1 (hts _ h2)
      exact ⟨(c, i), fun r hr => by cases hr; exact h⟩
    intro k
    match k with
    | 0 => exact go iJ0 qit_J0
    | 1 => exact go iJx qit_Jx
    | 2 => exact go iX1 qit_X1
    | 3 => exact go iX2 qit_X2
    | 4 => exact go iX3 qit_X3
    | 5 => exact go iX5 qit_X5
    | 6 => exact go iX6 qit_X6
    | 7 => exact go iX7 qit_X7
    | 8 => exact go iX8 qit_X8
    | 9 => exact go iX9 qit_X9
    | 10 => exact go iX11 qit_X11
    | 11 => exact go iX12 qit_X12
    | k + 12 => exact ⟨(0, fun _ => 0), fun r hr => by simp [vwCl] at hr⟩
  obtain ⟨f, hf⟩ := Classical.axiomOfChoice h0
  have ex : ∀ {ty : FieldType}, (∀ C, ty ≠ .object C) → Cond.arrayClass ty ∈ xW → ∃ c : ClassId, ArrOfT s c ty ∧ va_RA s c ty := fun h1 h2 => arrK h1 (hts _ h2)
  have g0 : ∀ k : Nat, ∃ c : ClassId, ∀ ty : FieldType, ([.int, .char, .long, .boolean, .object "TheatreLedger$Books", .object "TheatreLedger$Verb"] : List FieldType)[k]? = some ty → ArrOfT s c ty ∧ va_RA s c ty := by
    have go : ∀ {t0 : FieldType}, (∃ c : ClassId, ArrOfT s c t0 ∧ va_RA s c t0) → ∃ c : ClassId, ∀ ty : FieldType, some t0 = some ty → ArrOfT s c ty ∧ va_RA s c ty := by
      intro t0 ⟨c, h⟩
      exact ⟨c, fun ty e => by cases e; exact h⟩
    intro k
    match k with
    | 0 => exact go (ex (fun _ h => by cases h) qar_int)
    | 1 => exact go (ex (fun _ h => by cases h) qar_char)
    | 2 => exact go (ex (fun _ h => by cases h) qar_long)
    | 3 => exact go (ex (fun _ h => by cases h) qar_boolean)
    | 4 => exact go (arrQ hOB)
    | 5 => exact go (arrQ hOV)
    | k + 6 => exact ⟨0, fun ty h => by simp at h⟩
  obtain ⟨cA, hc⟩ := Classical.axiomOfChoice g0
  refine ⟨(fun k => (f k).1, fun k => (f k).2), cA, fun k q hq => hf k q hq, fun k q hq => ?_⟩
  match k, hq with
  | 0, hq =>
    have e := Option.some.inj (show some (cA 0, (FieldType.int : FieldType)) = some q from hq)
    subst e
    exact hc 0 _ rfl
  | 1, hq =>
    have e := Option.some.inj (show some (cA 1, (FieldType.char : FieldType)) = some q from hq)
    subst e
    exact hc 1 _ rfl
  | 2, hq =>
    have e := Option.some.inj (show some (cA 2, (FieldType.long : FieldType)) = some q from hq)
    subst e
    exact hc 2 _ rfl
  | 3, hq =>
    have e := Option.some.inj (show some (cA 3, (FieldType.boolean : FieldType)) = some q from hq)
    subst e
    exact hc 3 _ rfl
  | 4, hq =>
    have e := Option.some.inj (show some (cA 4, (FieldType.object "TheatreLedger$Books" : FieldType)) = some q from hq)
    subst e
    exact hc 4 _ rfl
  | 5, hq =>
    have e := Option.some.inj (show some (cA 5, (FieldType.object "TheatreLedger$Verb" : FieldType)) = some q from hq)
    subst e
    exact hc 5 _ rfl
  | k + 6, hq => simp [xT] at hq
theorem tDiff_all : (List.range 19).all (fun i => (List.range 19).all (fun j => decide (i = j) || (decide (¬ Int32.ofNat (tTln.getD i 0) = Int32.ofNat (tTln.getD j 0)) || (List.range 64).any (fun k => decide (k < tTln.getD i 0) && decide (k < tTln.getD j 0) && decide (¬ (tTxt.getD i []).getD k 0 = (tTxt.getD j []).getD k 0))))) = true := by decide +kernel
theorem tLen_all : (List.range 19).all (fun i => decide (tTln.getD i 0 < 2 ^ 31)) = true := by decide +kernel
theorem env_T {args : Array Value} {s : State} {A : Nat → Prop} (hts : ∀ w ∈ lw_tbl, w.before args s = true) (hg : narrow_1.before args s = true) (hA : ∀ a : Nat, a < s.heap.size → ¬ A a) : ∃ tt, tE tt A s s.heap ∧ tR tt s := by
  have tw : ∀ {k : Nat} {w : Cond}, lw_tbl[k]? = some w → w.before args s = true := fun h => hts _ (List.mem_of_getElem? h)
  have h0 : ∀ i : Nat, ∃ q : Nat × Nat, i < 19 → (Term.string "TheatreLedgerLaw" (tPl.getD i (0, "")).1).eval args s none [] s = some (.ref q.1) ∧ va_O "java/lang/String" q.1 A s s.heap ∧ va_OF "java/lang/String" "coder" "B" (.int 0) q.1 A s s.heap ∧ va_OF "java/lang/String" "value" "[B" (.ref q.2) q.1 A s s.heap ∧ va_T .byte q.2 (tTln.getD i 0) (fun j => .int ((tTxt.getD i []).getD j 0)) A s s.heap := by
    intro i
    by_cases hi : i < 19
    · obtain ⟨q, h⟩ := sOne (T := .string "TheatreLedgerLaw" (tPl.getD i (0, "")).1) (n := tTln.getD i 0) (bs := tTxt.getD i []) (A := A) (of_decide_eq_true (List.all_eq_true.mp tLen_all i (List.mem_range.mpr hi))) (pkA n_Tx hg i hi) (pkA n_Tc hg i hi) (pkA n_Ta hg i hi) (pkA n_Tl hg i hi) (pkE n_Te hg i hi) hA
      exact ⟨q, fun _ => h⟩
    · exact ⟨(0, 0), fun h => absurd h hi⟩
  obtain ⟨f, hf⟩ := Classical.axiomOfChoice h0
  have e1 : ∀ i, i < 19 → (fun k => if k < 19 then (f k).1 else (f (k - 19)).2) i = (f i).1 := fun i hi => if_pos hi
  have e2 : ∀ i, (fun k => if k < 19 then (f k).1 else (f (k - 19)).2) (19 + i) = (f i).2 := fun i => by
    show (if 19 + i < 19 then _ else (f (19 + i - 19)).2) = _
    rw [if_neg (by omega), Nat.add_sub_cancel_left]
  have hS : vk_S 19 tTln tTxt (fun i => (f i).1) (fun i => (f i).2) A s s.heap := by
    refine ⟨fun i hi => (hf i hi).2, fun i j hi hj e => ?_⟩
    have e : (f i).1 = (f j).1 := e
    have h1 := List.all_eq_true.mp (List.all_eq_true.mp tDiff_all i (List.mem_range.mpr hi)) j (List.mem_range.mpr hj)
    obtain ⟨_, _, _, o1, t1⟩ := hf i hi
    obtain ⟨_, _, _, o2, t2⟩ := hf j hj
    rw [e] at o1
    obtain ⟨d1, d2⟩ := sDist o1 o2 t1 t2
    simp only [Bool.or_eq_true, decide_eq_true_eq, List.any_eq_true, Bool.and_eq_true] at h1
    rcases h1 with h1 | h1 | ⟨k, -, ⟨h1, h2⟩, h3⟩
    · exact h1
    · exact absurd d1 h1
    · exact absurd (Value.int.inj (d2 k h1 h2)) h3
  refine ⟨fun k => if k < 19 then (f k).1 else (f (k - 19)).2, ⟨hS.cong (fun i hi => e1 i hi) (fun i hi => e2 i), va_Zof (tw n_LC) (tw n_IS) (va_eqi (pkb n_C hg)) hA, va_Zqof (tw n_LP) (tw n_IP) (pkb n_P hg) hA⟩, fun i hi => ?_⟩
  rw [e1 i hi]
  exact vk_R.of (tbA n_TR hts i hi) (hf i hi).1
theorem fl9 (l : Launch) (h : l.flags = flags0) : l.stackTraces = false := by
  unfold Launch.stackTraces
  rw [h]
  decide +kernel
