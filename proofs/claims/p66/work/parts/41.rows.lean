/-! the nine rows behind a world: handed on whole, or one of them handed on -/
def tp (F : Nat) : List Nat := (List.range 225).map fun j => F + j
def rp (F k : Nat) : List Nat := (List.range 25).map fun j => F + (25 * k + j)
theorem xLeft {wf wcf t : va_W} {isF : List Nat} (hC : isF.map (fun i => wf[i]?) = wcf.map some) : isF.map (fun i => (wf ++ t)[i]?) = wcf.map some := by
  rw [← hC]
  apply List.map_congr_left
  intro i hi
  have h1 : wf[i]? ∈ wcf.map some := by rw [← hC]; exact List.mem_map_of_mem hi
  obtain ⟨q, -, hq⟩ := List.mem_map.mp h1
  exact List.getElem?_append_left (List.getElem?_eq_some_iff.mp hq.symm).1
theorem xLt {wf wcf : va_W} {isF : List Nat} (hC : isF.map (fun i => wf[i]?) = wcf.map some) : ∀ i ∈ isF, i < wf.length := by
  intro i hi
  have h1 : wf[i]? ∈ wcf.map some := by rw [← hC]; exact List.mem_map_of_mem hi
  obtain ⟨q, -, hq⟩ := List.mem_map.mp h1
  exact (List.getElem?_eq_some_iff.mp hq.symm).1
theorem xTailC {cA : Nat → ClassId} {hr : Nat → Nat → Nat} {rs : Nat → BooS} {wf wcf : va_W} {F : Nat} (isF : List Nat) (hC : isF.map (fun i => wf[i]?) = wcf.map some) (hF : wf.length = F) :
    (isF ++ tp F).map (fun i => (wf ++ RowW cA hr rs)[i]?) = (wcf ++ RowW cA hr rs).map some := by
  rw [List.map_append, List.map_append, xLeft hC]
  congr 1
  unfold tp
  rw [List.map_map, ← xId (ws := RowW cA hr rs), RowW_len]
  apply List.map_congr_left
  intro j _
  show (wf ++ RowW cA hr rs)[F + j]? = _
  rw [← hF, List.getElem?_append_right (Nat.le_add_right _ _), Nat.add_sub_cancel_left]
theorem xTailF {cA : Nat → ClassId} {hr : Nat → Nat → Nat} {rs rs' : Nat → BooS} {a b : va_W} (h : a.map Prod.fst = b.map Prod.fst) : (a ++ RowW cA hr rs').map Prod.fst = (b ++ RowW cA hr rs).map Prod.fst := by
  rw [List.map_append, List.map_append, h, RowW_fst cA hr rs' rs]
theorem xH2T {cA : Nat → ClassId} {hr : Nat → Nat → Nat} {rs rs' : Nat → BooS} {wf w1f w2f : va_W} {F : Nat} (isF : List Nat) (hw : xput wf isF w1f = w2f) (hl : isF.length = w1f.length) (hF : wf.length = F) :
    ∀ (i : Nat) (q : Nat × va_E), (w2f ++ RowW cA hr rs')[i]? = some q → (i ∉ isF ++ tp F ∧ (wf ++ RowW cA hr rs)[i]? = some q) ∨ ∃ k : Nat, (isF ++ tp F)[k]? = some i ∧ (w1f ++ RowW cA hr rs')[k]? = some q := by
  intro i q h
  have h2 : w2f.length = F := by rw [← hw, xput_len, hF]
  by_cases hi : i < F
  · rw [List.getElem?_append_left (by omega), ← hw] at h
    rcases xput_get isF w1f wf i q h hl with ⟨h3, h4⟩ | ⟨k, h3, h4⟩
    · refine Or.inl ⟨fun hm => ?_, by rw [List.getElem?_append_left (by omega)]; exact h4⟩
      rcases List.mem_append.mp hm with hm | hm
      · exact h3 hm
      · obtain ⟨j, -, hj⟩ := List.mem_map.mp hm
        omega
    · refine Or.inr ⟨k, ?_, ?_⟩
      · rw [List.getElem?_append_left (List.getElem?_eq_some_iff.mp h3).1]; exact h3
      · rw [List.getElem?_append_left (List.getElem?_eq_some_iff.mp h4).1]; exact h4
  · rw [List.getElem?_append_right (by omega), h2] at h
    have hlt : i - F < 225 := by
      have := (List.getElem?_eq_some_iff.mp h).1
      rwa [RowW_len] at this
    refine Or.inr ⟨isF.length + (i - F), ?_, ?_⟩
    · rw [List.getElem?_append_right (Nat.le_add_right _ _), Nat.add_sub_cancel_left]
      unfold tp
      rw [List.getElem?_map, List.getElem?_range hlt]
      show some (F + (i - F)) = some i
      congr 1
      omega
    · rw [hl, List.getElem?_append_right (Nat.le_add_right _ _), Nat.add_sub_cancel_left]
      exact h
theorem xRowC {cA : Nat → ClassId} {hr : Nat → Nat → Nat} {rs : Nat → BooS} {wf : va_W} {F k : Nat} (hk : k < 9) (hF : wf.length = F) : (rp F k).map (fun i => (wf ++ RowW cA hr rs)[i]?) = (BooW cA (hr k) (rs k)).map some := by
  unfold rp
  rw [List.map_map, ← xId (ws := BooW cA (hr k) (rs k))]
  apply List.map_congr_left
  intro j hj
  have hj' : j < 25 := List.mem_range.mp hj
  show (wf ++ RowW cA hr rs)[F + (25 * k + j)]? = _
  rw [← hF, List.getElem?_append_right (Nat.le_add_right _ _), Nat.add_sub_cancel_left, RowW_get cA hr rs hk hj']
theorem xSwap {a b : List Nat} {x y : va_W} {i : Nat} {q : Nat × va_E} (h1 : a.length = x.length) (h2 : b.length = y.length) (h : ∃ k : Nat, (a ++ b)[k]? = some i ∧ (x ++ y)[k]? = some q) : ∃ k : Nat, (b ++ a)[k]? = some i ∧ (y ++ x)[k]? = some q := by
  obtain ⟨k, e1, e2⟩ := h
  by_cases hk : k < a.length
  · refine ⟨b.length + k, ?_, ?_⟩
    · rw [List.getElem?_append_left hk] at e1
      rw [List.getElem?_append_right (Nat.le_add_right _ _), Nat.add_sub_cancel_left]
      exact e1
    · rw [List.getElem?_append_left (by omega)] at e2
      rw [h2, List.getElem?_append_right (Nat.le_add_right _ _), Nat.add_sub_cancel_left]
      exact e2
  · rw [List.getElem?_append_right (by omega)] at e1 e2
    have hb : k - a.length < b.length := (List.getElem?_eq_some_iff.mp e1).1
    refine ⟨k - a.length, ?_, ?_⟩
    · rw [List.getElem?_append_left hb]; exact e1
    · rw [List.getElem?_append_left (by omega), h1]; exact e2
theorem xH2A {cA : Nat → ClassId} {hr : Nat → Nat → Nat} {rs : Nat → BooS} {wf wB w1B w2f : va_W} {F k : Nat} {b' : BooS} (isF : List Nat) (hC : isF.map (fun i => wf[i]?) = wB.map some) (hk : k < 9) (hw : xput wf isF w1B = w2f) (hl : isF.length = w1B.length) (hF : wf.length = F) :
    ∀ (i : Nat) (q : Nat × va_E), (w2f ++ RowW cA hr (uprow rs k b'))[i]? = some q → (i ∉ rp F k ++ isF ∧ (wf ++ RowW cA hr rs)[i]? = some q) ∨ ∃ j : Nat, (rp F k ++ isF)[j]? = some i ∧ (BooW cA (hr k) b' ++ w1B)[j]? = some q := by
  intro i q h
  have h2 : w2f.length = F := by rw [← hw, xput_len, hF]
  have hrl : (rp F k).length = 25 := by unfold rp; rw [List.length_map, List.length_range]
  have hbl : (BooW cA (hr k) b').length = 25 := rfl
  by_cases hi : i < F
  · rw [List.getElem?_append_left (by omega), ← hw] at h
    rcases xput_get isF w1B wf i q h hl with ⟨h3, h4⟩ | ⟨k1, h3, h4⟩
    · refine Or.inl ⟨fun hm => ?_, by rw [List.getElem?_append_left (by omega)]; exact h4⟩
      rcases List.mem_append.mp hm with hm | hm
      · obtain ⟨j, -, hj⟩ := List.mem_map.mp hm
        omega
      · exact h3 hm
    · refine Or.inr ⟨25 + k1, ?_, ?_⟩
      · rw [List.getElem?_append_right (by omega), hrl, Nat.add_sub_cancel_left]; exact h3
      · rw [List.getElem?_append_right (by omega), hbl, Nat.add_sub_cancel_left]; exact h4
  · rw [List.getElem?_append_right (by omega), h2] at h
    have hlt : i - F < 225 := by
      have := (List.getElem?_eq_some_iff.mp h).1
      rwa [RowW_len] at this
    obtain ⟨kk, jj, hkk, hjj, he⟩ : ∃ kk jj, kk < 9 ∧ jj < 25 ∧ i - F = 25 * kk + jj := ⟨(i - F) / 25, (i - F) % 25, by omega, by omega, by omega⟩
    rw [he, RowW_get cA hr _ hkk hjj] at h
    by_cases e : kk = k
    · subst e
      have e9 : uprow rs kk b' kk = b' := by simp [uprow]
      rw [e9] at h
      refine Or.inr ⟨jj, ?_, ?_⟩
      · rw [List.getElem?_append_left (by omega)]
        unfold rp
        rw [List.getElem?_map, List.getElem?_range hjj]
        show some (F + (25 * kk + jj)) = some i
        congr 1
        omega
      · rw [List.getElem?_append_left (by omega)]; exact h
    · have e9 : uprow rs k b' kk = rs kk := by simp [uprow, e]
      rw [e9] at h
      refine Or.inl ⟨fun hm => ?_, ?_⟩
      · rcases List.mem_append.mp hm with hm | hm
        · obtain ⟨j, hj, hj2⟩ := List.mem_map.mp hm
          have := List.mem_range.mp hj
          omega
        · have := xLt hC i hm
          omega
      · rw [List.getElem?_append_right (by omega), hF, he, RowW_get cA hr _ hkk hjj]; exact h
theorem xRowCA {cA : Nat → ClassId} {hr : Nat → Nat → Nat} {rs : Nat → BooS} {wf wB : va_W} {F k : Nat} (isF : List Nat) (hC : isF.map (fun i => wf[i]?) = wB.map some) (hk : k < 9) (hF : wf.length = F) : (rp F k ++ isF).map (fun i => (wf ++ RowW cA hr rs)[i]?) = (BooW cA (hr k) (rs k) ++ wB).map some := by
  rw [List.map_append, List.map_append, xRowC hk hF, xLeft hC]
theorem xRowCB {cA : Nat → ClassId} {hr : Nat → Nat → Nat} {rs : Nat → BooS} {wf wB : va_W} {F k : Nat} (isF : List Nat) (hC : isF.map (fun i => wf[i]?) = wB.map some) (hk : k < 9) (hF : wf.length = F) : (isF ++ rp F k).map (fun i => (wf ++ RowW cA hr rs)[i]?) = (wB ++ BooW cA (hr k) (rs k)).map some := by
  rw [List.map_append, List.map_append, xRowC hk hF, xLeft hC]
theorem xH2B {cA : Nat → ClassId} {hr : Nat → Nat → Nat} {rs : Nat → BooS} {wf wB w1B w2f : va_W} {F k : Nat} {b' : BooS} (isF : List Nat) (hC : isF.map (fun i => wf[i]?) = wB.map some) (hk : k < 9) (hw : xput wf isF w1B = w2f) (hl : isF.length = w1B.length) (hF : wf.length = F) :
    ∀ (i : Nat) (q : Nat × va_E), (w2f ++ RowW cA hr (uprow rs k b'))[i]? = some q → (i ∉ isF ++ rp F k ∧ (wf ++ RowW cA hr rs)[i]? = some q) ∨ ∃ j : Nat, (isF ++ rp F k)[j]? = some i ∧ (w1B ++ BooW cA (hr k) b')[j]? = some q := by
  intro i q h
  have hrl : (rp F k).length = 25 := by unfold rp; rw [List.length_map, List.length_range]
  rcases xH2A isF hC hk hw hl hF i q h with ⟨h1, h2⟩ | h1
  · refine Or.inl ⟨fun hm => h1 ?_, h2⟩
    rcases List.mem_append.mp hm with hm | hm
    · exact List.mem_append_right _ hm
    · exact List.mem_append_left _ hm
  · exact Or.inr (xSwap (by rw [hrl]; rfl) hl h1)
section ZRA
variable {p : Program} {l : Launch} {e : Env} {R : Room} {s : State} {m : MethodId} {args : Array Value} {below : List Frame} {meth : Method} {c : Code} {H : Heap} {locs : List Loc} {cells slots : Nat} {Q : State → Prop}
variable {cc : ByteArray} {pc a : Nat} {ls : Array Slot} {rest : List Value} {D : va_G} {cl : List vw_C} {tys : List (ClassId × FieldType)} {ws : va_W}
theorem zRald {hr : Nat → Nat → Nat} (hexec : p.tables.exec = Jvm.exec) (hb : c.code = cc) (hK : va_K D cl tys s) (hP : va_P D cl ws H) (q0 t0 : Nat) {cB : ClassId} {C : String} {n : Nat} (ha : ws[q0]? = some (a, .inl (cB, n, .inr (.inr (.inr (.inr (fun i => some (hr i 0)))))))) (ht : tys[t0]? = some (cB, .object C)) {i : Int32} {k : Nat} (hin : vp_in i n ∧ i.toNatClampNeg = k) (hdg : decode cc pc = .ok (.aaload, 1))
    (kk : W p l e R s m args below meth c H locs cells slots Q (F0 m (pc + 1) ls (.ref (hr k 0) :: rest))) : W p l e R s m args below meth c H locs cells slots Q (F0 m pc ls (.int i :: .ref a :: rest)) := by
  obtain ⟨h1, rfl⟩ := hin
  exact va_aldq hexec hb hK hP q0 t0 ha ht h1 hdg kk
end ZRA
