/-! ===== all commands, class and reference ===== -/
def qC (t t' : ThlS) : Prop := t'.2.1 = t.2.1 ∧ t'.2.2.1 = t.2.2.1 ∧ t'.2.2.2.2 = t.2.2.2.2
def qK (s s' : MS) : Prop := s'.2.1 = s.2.1 ∧ s'.2.2.1 = s.2.2.1 ∧ s'.2.2.2.1 = s.2.2.2.1 ∧ s'.2.2.2.2.1 = s.2.2.2.2.1 ∧ s'.2.2.2.2.2.1 = s.2.2.2.2.2.1 ∧ s'.2.2.2.2.2.2.1 = s.2.2.2.2.2.2.1 ∧ s'.2.2.2.2.2.2.2.1 = s.2.2.2.2.2.2.2.1 ∧ s'.2.2.2.2.2.2.2.2.1 = s.2.2.2.2.2.2.2.2.1 ∧ s'.2.2.2.2.2.2.2.2.2.1 = s.2.2.2.2.2.2.2.2.2.1 ∧ s'.2.2.2.2.2.2.2.2.2.2.1 = s.2.2.2.2.2.2.2.2.2.2.1 ∧ s'.2.2.2.2.2.2.2.2.2.2.2.1 = s.2.2.2.2.2.2.2.2.2.2.2.1 ∧ pa s' = pa s
theorem qC.tr {s s' s2 : ThlS} (h : qC s s') (h2 : qC s' s2) : qC s s2 := ⟨h2.1.trans h.1, h2.2.1.trans h.2.1, h2.2.2.trans h.2.2⟩
theorem qC.rf (s : ThlS) : qC s s := ⟨rfl, rfl, rfl⟩
theorem qK.tr {s s' s2 : MS} (h : qK s s') (h2 : qK s' s2) : qK s s2 := by
  obtain ⟨a1, a2, a3, a4, a5, a6, a7, a8, a9, a10, a11, a12⟩ := h
  obtain ⟨b1, b2, b3, b4, b5, b6, b7, b8, b9, b10, b11, b12⟩ := h2
  exact ⟨b1.trans a1, b2.trans a2, b3.trans a3, b4.trans a4, b5.trans a5, b6.trans a6, b7.trans a7, b8.trans a8, b9.trans a9, b10.trans a10, b11.trans a11, b12.trans a12⟩
theorem qK.rf (s : MS) : qK s s := ⟨rfl, rfl, rfl, rfl, rfl, rfl, rfl, rfl, rfl, rfl, rfl, rfl⟩
theorem qK.up (s : MS) (g : Nat → Int32) (x : Int32) : qK s (Ms12 (Ms0 s g) x) := qK.rf s
theorem qK.u12 (s : MS) (x : Int32) : qK s (Ms12 s x) := qK.rf s
section RU
variable {N : Nat}
/-- how the two loops end -/
end RU
def cK (N : Nat) (v : Int32) (t : ThlS) (r : Nat → BooS) : Option (Nat × Int32 × ThlS × (Nat → BooS)) := if t.2.2.2.2.1.2.2.2.2.1 ≤ v then xcall (fX5_keepAside N t.2.2.1) fun q6 => some (0, t.2.2.2.2.1.2.2.2.2.1, (Thls2 t q6), r) else xcall (fX5_putBack N t.2.2.1 t.1 r) fun q7 => some (5, 0, (Thls9 (Thls2 (Thls0 t q7.2.1) q7.1) v), q7.2.2)
theorem runc_K (N : Nat) (t : ThlS) (r : Nat → BooS) : fX12_runCommands N t r = xcall (fX9_read N t.2.2.2.2.1) fun q1 => if q1.1 = 0 then some (3, 0, (Thls8 (Thls4 t ((Scrs1 q1.2 0))) q1.2.2.2.2.2.2), r) else xcall (fX5_setAside N t.2.2.1 t.1 r) fun q3 => fX12_runCommands_L55 N (cK N) N 0 ((Thls4 (Thls2 (Thls0 t q3.2.1) q3.1) ((Scrs1 q1.2 0)))) q3.2.2 := rfl
section SRU
variable {N : Nat} {t : ThlS} {r : Nat → BooS} {s : MS} {W : SO} {a b : Nat}
theorem qT.rm {s s' : MS} (h : qT s s') {W : SO} (hM : RM s W) : RM s' W := by
  obtain ⟨a0, a1, a2, a3, a4, a5, a6, a7, a8, a9, a10, a11, a12⟩ := h
  obtain ⟨m1, m2, m3, ⟨m4, m5⟩, ⟨m6, m7⟩, m8, m9, ⟨m10, m11⟩⟩ := hM
  refine ⟨by rw [a0]; exact m1, by rw [a3]; exact m2, by rw [a2]; exact m3, ⟨by rw [a5]; exact m4, by rw [a4]; exact m5⟩, ⟨by rw [a7]; exact m6, by rw [a6]; exact m7⟩, by rw [a8]; exact m8, by rw [a9]; exact m9, ⟨by rw [a11]; exact m10, by rw [a10]; exact m11⟩⟩
theorem AC.nil (f : Nat → Int32) : AC f [] := fun i c hi => nil_at hi
end SRU
