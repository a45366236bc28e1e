/-! a callee's world put back by places; rows of books as a tail -/
def xput : va_W → List Nat → va_W → va_W
  | ws, i :: is, q :: qs => xput (ws.set i q) is qs
  | ws, _, _ => ws
theorem xput_len : ∀ (isC : List Nat) (w1 ws : va_W), (xput ws isC w1).length = ws.length := by
  intro isC
  induction isC with
  | nil => intro w1 ws; cases w1 <;> rfl
  | cons i is ih =>
    intro w1 ws
    cases w1 with
    | nil => rfl
    | cons q qs =>
      show (xput (ws.set i q) is qs).length = _
      rw [ih, List.length_set]
theorem xput_get : ∀ (isC : List Nat) (w1 ws : va_W) (i : Nat) (q : Nat × va_E), (xput ws isC w1)[i]? = some q → isC.length = w1.length → (i ∉ isC ∧ ws[i]? = some q) ∨ ∃ k : Nat, isC[k]? = some i ∧ w1[k]? = some q := by
  intro isC
  induction isC with
  | nil => intro w1 ws i q h hl; cases w1 with
    | nil => exact Or.inl ⟨List.not_mem_nil, h⟩
    | cons a b => cases hl
  | cons i0 is ih =>
    intro w1 ws i q h hl
    cases w1 with
    | nil => cases hl
    | cons q0 qs =>
      have h9 : (xput (ws.set i0 q0) is qs)[i]? = some q := h
      rcases ih qs (ws.set i0 q0) i q h9 (Nat.succ.inj hl) with ⟨h1, h2⟩ | ⟨k, h1, h2⟩
      · by_cases e : i0 = i
        · subst e
          rw [List.getElem?_set] at h2
          simp only [if_true] at h2
          split at h2
          · exact Or.inr ⟨0, rfl, h2⟩
          · cases h2
        · rw [List.getElem?_set, if_neg e] at h2
          exact Or.inl ⟨fun hm => (List.mem_cons.mp hm).elim (fun z => e z.symm) h1, h2⟩
      · exact Or.inr ⟨k + 1, h1, h2⟩
theorem xJoinP {A0 : Nat → Prop} {D : va_G} {cl : List vw_C} {ws wc w1 w2 : va_W} {H H1 : Heap} (hP : va_P D cl ws H) (hD : va_D A0 ws) (isC : List Nat) (hC : isC.map (fun i => ws[i]?) = wc.map some) (ha : w1.map Prod.fst = wc.map Prod.fst)
    (h2 : ∀ (i : Nat) (q : Nat × va_E), w2[i]? = some q → (i ∉ isC ∧ ws[i]? = some q) ∨ ∃ k : Nat, isC[k]? = some i ∧ w1[k]? = some q)
    (hk : ∀ q, q < H.size → ¬ va_A wc H.size q → H1[q]? = H[q]?) (hP1 : va_P D cl w1 H1) : va_P D cl w2 H1 ∧ va_D A0 w2 := by
  have hcw : ∀ (k i : Nat) (p : Nat × va_E), isC[k]? = some i → wc[k]? = some p → ws[i]? = some p := by
    intro k i p h1 h3
    have e := congrArg (fun l => l[k]?) hC
    simp only [List.getElem?_map, h1, h3, Option.map_some] at e
    exact Option.some.inj e
  have hwc : ∀ (k : Nat) (p : Nat × va_E), wc[k]? = some p → ∃ i, isC[k]? = some i := by
    intro k p h3
    have e := congrArg (fun l => l[k]?) hC
    simp only [List.getElem?_map, h3, Option.map_some] at e
    cases h : isC[k]? with
    | none => rw [h] at e; cases e
    | some i => exact ⟨i, rfl⟩
  have hadr : ∀ (i : Nat) (q : Nat × va_E), w2[i]? = some q → ∃ q0, ws[i]? = some q0 ∧ q0.1 = q.1 := by
    intro i q h
    rcases h2 i q h with ⟨-, h1⟩ | ⟨k, h1, h3⟩
    · exact ⟨q, h1, rfl⟩
    · have e := congrArg (fun l => l[k]?) ha
      simp only [List.getElem?_map, h3, Option.map_some] at e
      cases hp : wc[k]? with
      | none => rw [hp] at e; cases e
      | some p0 =>
        rw [hp] at e
        exact ⟨p0, hcw k i p0 h1 hp, (Option.some.inj e).symm⟩
  refine ⟨fun i q hq => ?_, ?_, ?_⟩
  · rcases h2 i q hq with ⟨h1, h3⟩ | ⟨k, h1, h3⟩
    · refine (hP i q h3).kept (hk q.1 (hP i q h3).lt ?_)
      rintro (⟨k, e, hke⟩ | hge)
      · obtain ⟨i', hi'⟩ := hwc k _ hke
        have e9 := hD.1 i i' _ _ h3 (hcw k i' _ hi' hke) rfl
        rw [e9] at h1
        exact h1 (List.mem_of_getElem? hi')
      · exact absurd (hP i q h3).lt (Nat.not_lt.mpr hge)
    · exact hP1 k q h3
  · intro i j p q hp hq e
    obtain ⟨p0, h3, e3⟩ := hadr i p hp
    obtain ⟨q0, h4, e4⟩ := hadr j q hq
    exact hD.1 i j p0 q0 h3 h4 (by rw [e3, e4, e])
  · intro k q hq
    obtain ⟨q0, h3, e3⟩ := hadr k q hq
    rw [← e3]
    exact hD.2 k q0 h3
theorem xH2 {ws w1 w2 : va_W} (isC : List Nat) (hw : xput ws isC w1 = w2) (hl : isC.length = w1.length) : ∀ (i : Nat) (q : Nat × va_E), w2[i]? = some q → (i ∉ isC ∧ ws[i]? = some q) ∨ ∃ k : Nat, isC[k]? = some i ∧ w1[k]? = some q := by
  intro i q h
  rw [← hw] at h
  exact xput_get isC w1 ws i q h hl
section XP
variable {p : Program} {l : Launch} {e : Env} {R : Room} {s : State} {m : MethodId} {args : Array Value} {below : List Frame} {meth : Method} {c : Code} {H : Heap} {locs : List Loc} {cells slots : Nat} {Q : State → Prop}
theorem xCallH {D : va_G} {cA : Nat → ClassId} {A0 : Nat → Prop} {H0 : Heap} {ws wc w1 w2 : va_W} {v : Option Value} {pc : Nat} {ls : Array Slot} {st0 rest : List Value} {a : Array Value}
    (hr : va_Run p l e R s m args below meth c H locs cells slots 0 0 (F0 m pc ls st0) rest (xQ D cA (va_A wc H.size) w1 v a) (va_A wc H.size))
    (hP : va_P D vwCl ws H) (hD : va_D A0 ws) (hS : va_S A0 H0 H locs) (hA : ∀ q, H0.size ≤ q → A0 q)
    (isC : List Nat) (hC : isC.map (fun i => ws[i]?) = wc.map some) (ha : w1.map Prod.fst = wc.map Prod.fst)
    (h2 : ∀ (i : Nat) (q : Nat × va_E), w2[i]? = some q → (i ∉ isC ∧ ws[i]? = some q) ∨ ∃ k : Nat, isC[k]? = some i ∧ w1[k]? = some q)
    (kk : ∀ (H1 : Heap) (locs1 : List Loc), va_P D vwCl w2 H1 → va_D A0 w2 → va_S A0 H0 H1 locs1 → W p l e R s m args below meth c H1 locs1 cells slots Q (F0 m (pc + 3) ls (v.toList ++ rest))) :
    W p l e R s m args below meth c H locs cells slots Q (F0 m pc ls st0) := by
  intro T hT X
  have hF := va_free (wc := wc) hD hS hA isC hC
  obtain ⟨v', st₀, t, T', L, h0, X', hL, e1, e2, ⟨⟨hv, hP1, -, hD1⟩, hz, hk⟩, st⟩ := hr T hT X
  cases hv
  rw [h0] at hz hk
  obtain ⟨hPn, hDn⟩ := xJoinP hP hD isC hC ha h2 hk hP1
  obtain ⟨t2, a1, b1⟩ := kk T'.heap (locs ++ L) (by rw [e1]; exact hPn) hDn
    ⟨Nat.le_trans hS.1 (by rw [e1]; exact hz), fun q h1 h2 => by rw [e1, hk q (Nat.lt_of_lt_of_le h1 hS.1) (fun z => h2 (hF q z))]; exact hS.2.1 q h1 h2, fun q hq => by
      rcases List.mem_append.mp hq with h | h
      · exact hS.2.2 q h
      · exact hF _ (hL q h)⟩ T' rfl X'
  exact ⟨t2, st t2 a1, b1⟩
theorem xCallP {D : va_G} {cA : Nat → ClassId} {A0 : Nat → Prop} {H0 : Heap} {ws wc w1 w2 : va_W} {v : Option Value} {pc : Nat} {ls : Array Slot} {st0 rest : List Value} {a : Array Value}
    (hr : va_Run p l e R s m args below meth c H locs cells slots 0 0 (F0 m pc ls st0) rest (xQ D cA (va_A wc H.size) w1 v a) (va_A wc H.size))
    (hP : va_P D vwCl ws H) (hD : va_D A0 ws) (hS : va_S A0 H0 H locs) (hA : ∀ q, H0.size ≤ q → A0 q)
    (isC : List Nat) (hC : isC.map (fun i => ws[i]?) = wc.map some) (ha : w1.map Prod.fst = wc.map Prod.fst) (hl : isC.length = w1.length) (hw : xput ws isC w1 = w2)
    (kk : ∀ (H1 : Heap) (locs1 : List Loc), va_P D vwCl w2 H1 → va_D A0 w2 → va_S A0 H0 H1 locs1 → W p l e R s m args below meth c H1 locs1 cells slots Q (F0 m (pc + 3) ls (v.toList ++ rest))) :
    W p l e R s m args below meth c H locs cells slots Q (F0 m pc ls st0) :=
  xCallH hr hP hD hS hA isC hC ha (xH2 isC hw hl) kk
end XP
/-! nine rows of books -/
def RowW (cA : Nat → ClassId) (hr : Nat → Nat → Nat) (rs : Nat → BooS) : va_W := (List.range 9).flatMap fun i => BooW cA (hr i) (rs i)
def uprow (rs : Nat → BooS) (k : Nat) (b : BooS) : Nat → BooS := fun j => if j = k then b else rs j
theorem flat_len {α : Type} (F : Nat → List α) (L : Nat) (hL : ∀ i, (F i).length = L) : ∀ n, ((List.range n).flatMap F).length = L * n := by
  intro n
  induction n with
  | zero => rfl
  | succ n ih =>
    rw [List.range_succ, List.flatMap_append, List.length_append, ih, List.flatMap_cons, List.flatMap_nil, List.append_nil, hL]
    rfl
theorem flat_get {α : Type} (F : Nat → List α) (L : Nat) (hL : ∀ i, (F i).length = L) : ∀ n k j, k < n → j < L → ((List.range n).flatMap F)[L * k + j]? = (F k)[j]? := by
  intro n
  induction n with
  | zero => intro k j h; omega
  | succ n ih =>
    intro k j hk hj
    rw [List.range_succ, List.flatMap_append, List.flatMap_cons, List.flatMap_nil, List.append_nil]
    have hlen := flat_len F L hL n
    by_cases e : k = n
    · subst e
      rw [List.getElem?_append_right (by omega), hlen, Nat.add_sub_cancel_left]
    · have hkn : k < n := by omega
      have h1 : L * k + j < L * n := by
        have h3 : L * (k + 1) ≤ L * n := Nat.mul_le_mul_left L (by omega)
        rw [Nat.mul_succ] at h3
        omega
      rw [List.getElem?_append_left (by omega)]
      exact ih k j hkn hj
theorem RowW_len (cA : Nat → ClassId) (hr : Nat → Nat → Nat) (rs : Nat → BooS) : (RowW cA hr rs).length = 225 := flat_len _ 25 (fun _ => rfl) 9
theorem RowW_get (cA : Nat → ClassId) (hr : Nat → Nat → Nat) (rs : Nat → BooS) {k j : Nat} (hk : k < 9) (hj : j < 25) : (RowW cA hr rs)[25 * k + j]? = (BooW cA (hr k) (rs k))[j]? := flat_get _ 25 (fun _ => rfl) 9 k j hk hj
theorem RowW_fst (cA : Nat → ClassId) (hr : Nat → Nat → Nat) (rs rs' : Nat → BooS) : (RowW cA hr rs).map Prod.fst = (RowW cA hr rs').map Prod.fst := by
  unfold RowW
  rw [List.map_flatMap, List.map_flatMap]
  rfl
