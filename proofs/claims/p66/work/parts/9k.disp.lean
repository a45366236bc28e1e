/-! ===== a command carried out: by its word ===== -/
theorem xcall_eta {α β : Type} (o : Option (α × β)) : (xcall o fun q => some (q.1, q.2)) = o := by cases o <;> rfl
def coB (N j : Nat) (v0 v1 v2 : Int32) (t : ThlS) : Option (Nat × ThlS) :=
  if Int32.ofNat (j + 1) = 1 then xcall (fX12_commandPost N v0 v1 v2 t) fun q => some (q.1, q.2)
  else if Int32.ofNat (j + 1) = 2 then xcall (fX12_commandBack N v0 t) fun q => some (q.1, q.2)
  else if Int32.ofNat (j + 1) = 3 then xcall (fX12_commandOpen N (((Int32.toUInt32 v0) % 65536).toInt32) v1 t) fun q => some (q.1, q.2)
  else if Int32.ofNat (j + 1) = 4 then xcall (fX12_commandBuy N v0 v1 t) fun q => some (q.1, q.2)
  else if Int32.ofNat (j + 1) = 5 then xcall (fX12_commandSell N v0 v1 t) fun q => some (q.1, q.2)
  else if Int32.ofNat (j + 1) = 6 then xcall (fX12_commandBill N v0 t) fun q => some (q.1, q.2)
  else if Int32.ofNat (j + 1) = 7 then xcall (fX12_commandPay N v0 t) fun q => some (q.1, q.2)
  else if Int32.ofNat (j + 1) = 8 then (if v0 = (-1) then xcall (fX12_commandWait N 1 t) fun q => some (q.1, q.2) else xcall (fX12_commandWait N v0 t) fun q => some (q.1, q.2))
  else if Int32.ofNat (j + 1) = 9 then xcall (fX3_dropCurtain N t.1) fun q => some (0, (Thls0 t q.2))
  else some (3, t)
theorem co_disp (N : Nat) {t : ThlS} {C : List (Nat × List Int)} (hC : RCm t.2.2.2.2.1 C) {i : Nat} {c : Nat × List Int} (hc : C[i]? = some c) (hi : i < 12) : fX12_carryOut N (iI (i : Int)) t = coB N c.1 (iI (c.2.getD 0 (-1))) (iI (c.2.getD 1 (-1))) (iI (c.2.getD 2 (-1))) t := by
  obtain ⟨c1, c2, c3⟩ := hC.2 i c hc
  have va : fX9_verbAt N (iI (i : Int)) t.2.2.2.2.1 = some (some (10 + c.1)) := by unfold fX9_verbAt; rw [xrd_n hi (by omega), c2]
  have vl : ∀ q : Nat, q < 3 → fX9_valueAt N (iI (i : Int)) (iI (q : Int)) t.2.2.2.2.1 = some (iI (c.2.getD q (-1))) := fun q hq => by
    unfold fX9_valueAt
    rw [show (3 : Int32) = iI 3 from rfl, i_mul, i_add, xrd_at (k := i * 3 + q) (by congr 1) (by omega) (by omega), c3 q hq]
  have v0 : fX9_valueAt N (iI (i : Int)) 0 t.2.2.2.2.1 = some (iI (c.2.getD 0 (-1))) := vl 0 (by omega)
  have v1 : fX9_valueAt N (iI (i : Int)) 1 t.2.2.2.2.1 = some (iI (c.2.getD 1 (-1))) := vl 1 (by omega)
  have v2 : fX9_valueAt N (iI (i : Int)) 2 t.2.2.2.2.1 = some (iI (c.2.getD 2 (-1))) := vl 2 (by omega)
  have xv : ∀ {γ : Type} (K : Nat → Option γ), xvb (10 + c.1) K = K c.1 := fun {γ} K => by
    unfold xvb
    rw [if_pos (by omega), show 10 + c.1 - 10 = c.1 by omega]
  have hj : Int32.ofNat c.1 = iI (c.1 : Int) := by show _ = Int32.ofInt (c.1 : Int); rw [Int32.ofInt_eq_ofNat]
  unfold fX12_carryOut
  rw [va, xcall_s]
  unfold xopt
  dsimp only
  rw [v0, xcall_s, v1, xcall_s, xv, hj, xrd_n c1 (by omega)]
  unfold xlet xjoin
  dsimp only
  rw [v2, xcall_s]
  rfl
section COA
variable {N : Nat} {t : ThlS} {s : MS} {S : SG} {a b : Nat}
end COA
