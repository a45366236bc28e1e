/-! ===== all commands, class and reference ===== -/
def qC (t t' : ThlS) : Prop := t'.2.1 = t.2.1 ∧ t'.2.2.1 = t.2.2.1 ∧ t'.2.2.2.2 = t.2.2.2.2
theorem qC.tr {s s' s2 : ThlS} (h : qC s s') (h2 : qC s' s2) : qC s s2 := ⟨h2.1.trans h.1, h2.2.1.trans h.2.1, h2.2.2.trans h.2.2⟩
theorem qC.rf (s : ThlS) : qC s s := ⟨rfl, rfl, rfl⟩
section RU
variable {N : Nat}
end RU
def cK (N : Nat) (v : Int32) (t : ThlS) (r : Nat → BooS) : Option (Nat × Int32 × ThlS × (Nat → BooS)) := if t.2.2.2.2.1.2.2.2.2.1 ≤ v then xcall (fX5_keepAside N t.2.2.1) fun q6 => some (0, t.2.2.2.2.1.2.2.2.2.1, (Thls2 t q6), r) else xcall (fX5_putBack N t.2.2.1 t.1 r) fun q7 => some (5, 0, (Thls9 (Thls2 (Thls0 t q7.2.1) q7.1) v), q7.2.2)
theorem runc_K (N : Nat) (t : ThlS) (r : Nat → BooS) : fX12_runCommands N t r = xcall (fX9_read N t.2.2.2.2.1) fun q1 => if q1.1 = 0 then some (3, 0, (Thls8 (Thls4 t ((Scrs1 q1.2 0))) q1.2.2.2.2.2.2), r) else xcall (fX5_setAside N t.2.2.1 t.1 r) fun q3 => fX12_runCommands_L55 N (cK N) N 0 ((Thls4 (Thls2 (Thls0 t q3.2.1) q3.1) ((Scrs1 q1.2 0)))) q3.2.2 := rfl
section SRU
variable {N : Nat} {t : ThlS} {r : Nat → BooS} {s : MS} {W : SO} {a b : Nat}
theorem AC.nil (f : Nat → Int32) : AC f [] := fun i c hi => nil_at hi
end SRU
