/-! ===== a command carried out: by its word ===== -/
theorem xcall_eta {α β : Type} (o : Option (α × β)) : (xcall o fun q => some (q.1, q.2)) = o := by cases o <;> rfl
def coB (N j : Nat) (v0 v1 v2 : Int32) (t : ThlS) : Option (Nat × ThlS) :=
  if Int32.ofNat (j + 1) = 1 then xcall (fX12_commandPost N v0 v1 v2 t) fun q => some (q.1, q.2)
  else if Int32.ofNat (j + 1) = 2 then xcall (fX12_commandBack N v0 t) fun q => some (q.1, q.2)
  else if Int32.ofNat (j + 1) = 3 then xcall (fX12_commandOpen N (((Int32.toUInt32 v0) % 65536).toInt32) v1 t) fun q => some (q.1, q.2)
  else if Int32.ofNat (j + 1) = 4 then xcall (fX12_commandBuy N v0 v1 t) fun q => some (q.1, q.2)
  else if Int32.ofNat (j + 1) = 5 then xcall (fX12_commandSell N v0 v1 t) fun q => some (q.1, q.2)
  else if Int32.ofNat (j + 1) = 6 then xcall (fX12_commandBill N v0 t) fun q => some (q.1, q.2)
  else if Int32.ofNat (j + 1) = 7 then xcall (fX12_commandPay N v0 t) fun q => some (q.1, q.2)
  else if Int32.ofNat (j + 1) = 8 then (if v0 = (-1) then xcall (fX12_commandWait N 1 t) fun q => some (q.1, q.2) else xcall (fX12_commandWait N v0 t) fun q => some (q.1, q.2))
  else if Int32.ofNat (j + 1) = 9 then xcall (fX3_dropCurtain N t.1) fun q => some (0, (Thls0 t q.2))
  else some (3, t)
def coM (N : Nat) (x v0 v1 v2 : Int32) (s : MS) : Option (Int32 × MS) :=
  if x = 98 then fX13_reverses N v0 s
  else if x = 108 then fX13_writesBill N v0 s
  else if x = 111 then fX13_opensBy N v0 v1 s
  else if x = 112 then fX13_posts N v0 v1 v2 s
  else if x = 115 then fX13_sells N v0 v1 s
  else if x = 117 then fX13_buys N v0 v1 s
  else if x = 119 then fX13_passes N v0 s
  else if x = 121 then fX13_pays N v0 s
  else fX13_falls N s
theorem co_disp (N : Nat) {t : ThlS} {C : List (Nat × List Int)} (hC : RCm t.2.2.2.2.1 C) {i : Nat} {c : Nat × List Int} (hc : C[i]? = some c) (hi : i < 12) : fX12_carryOut N (iI (i : Int)) t = coB N c.1 (iI (c.2.getD 0 (-1))) (iI (c.2.getD 1 (-1))) (iI (c.2.getD 2 (-1))) t := by
  obtain ⟨c1, c2, c3⟩ := hC.2 i c hc
  have va : fX9_verbAt N (iI (i : Int)) t.2.2.2.2.1 = some (some (10 + c.1)) := by unfold fX9_verbAt; rw [xrd_n hi (by omega), c2]
  have vl : ∀ q : Nat, q < 3 → fX9_valueAt N (iI (i : Int)) (iI (q : Int)) t.2.2.2.2.1 = some (iI (c.2.getD q (-1))) := fun q hq => by
    unfold fX9_valueAt
    rw [show (3 : Int32) = iI 3 from rfl, i_mul, i_add, xrd_at (k := i * 3 + q) (by congr 1) (by omega) (by omega), c3 q hq]
  have v0 : fX9_valueAt N (iI (i : Int)) 0 t.2.2.2.2.1 = some (iI (c.2.getD 0 (-1))) := vl 0 (by omega)
  have v1 : fX9_valueAt N (iI (i : Int)) 1 t.2.2.2.2.1 = some (iI (c.2.getD 1 (-1))) := vl 1 (by omega)
  have v2 : fX9_valueAt N (iI (i : Int)) 2 t.2.2.2.2.1 = some (iI (c.2.getD 2 (-1))) := vl 2 (by omega)
  have xv : ∀ {γ : Type} (K : Nat → Option γ), xvb (10 + c.1) K = K c.1 := fun {γ} K => by
    unfold xvb
    rw [if_pos (by omega), show 10 + c.1 - 10 = c.1 by omega]
  have hj : Int32.ofNat c.1 = iI (c.1 : Int) := by show _ = Int32.ofInt (c.1 : Int); rw [Int32.ofInt_eq_ofNat]
  unfold fX12_carryOut
  rw [va, xcall_s]
  unfold xopt
  dsimp only
  rw [v0, xcall_s, v1, xcall_s, xv, hj, xrd_n c1 (by omega)]
  unfold xlet xjoin
  dsimp only
  rw [v2, xcall_s]
  rfl
theorem cm_disp (N : Nat) (s : MS) {b0 : Nat} (hb : b0 + 4 ≤ 240) : fX13_carriesOut N (iI (b0 : Int)) s = coM N (pa s b0) (pa s (b0 + 1)) (pa s (b0 + 2)) (pa s (b0 + 3)) s := by
  have i1 : iI (b0 : Int) + 1 = iI ((b0 + 1 : Nat) : Int) := by rw [i_lit, i_add]; rfl
  have i2 : iI (b0 : Int) + 2 = iI ((b0 + 2 : Nat) : Int) := by rw [i_lit, i_add]; rfl
  have i3 : iI (b0 : Int) + 3 = iI ((b0 + 3 : Nat) : Int) := by rw [i_lit, i_add]; rfl
  unfold fX13_carriesOut
  rw [i1, xrd_n (by omega) (by omega)]
  unfold xlet xjoin
  dsimp only
  rw [i2, xrd_n (by omega) (by omega), xrd_n (by omega) (by omega), i3, xrd_n (by omega) (by omega)]
  simp only [xcall_eta]
  rfl
section COA
variable {N : Nat} {t : ThlS} {s : MS} {S : SG} {a b : Nat}
theorem co_all (hN : 2000 ≤ N) {C : List (Nat × List Int)} (hC : RCm t.2.2.2.2.1 C) {i : Nat} {c : Nat × List Int} (hc : C[i]? = some c) (hi : i < 12) (hP : PC (pa s) (4 * i) c) (hV : VC c) (hR : RBo t.1 S) (hM : GG s.1 S) (h : WS a b S) (hu : a + b + 1 ≤ 512) : COr (fX12_carryOut N (iI (i : Int)) t) (fX13_carriesOut N (iI ((4 * i : Nat) : Int)) s) t s a b := by
  rw [co_disp N hC hc hi, cm_disp N s (by omega)]
  obtain ⟨j, vs⟩ := c
  obtain ⟨p1, p2⟩ := hP
  obtain ⟨q1, q2, q3⟩ := hV
  have r0 := q2 0
  have r1 := q2 1
  have r2 := q2 2
  dsimp only at p1 p2 q1 q3 r0 r1 r2 ⊢
  have p2' : j ≠ 7 → ∀ k, k < arS j → pa s (4 * i + 1 + k) = iI (vs.getD k (-1)) := fun h7 k hk => by
    rw [p2 k hk, if_neg (fun hh => h7 hh.1)]
  rw [p1]
  unfold coB coM
  obtain rfl | rfl | rfl | rfl | rfl | rfl | rfl | rfl | rfl : j = 0 ∨ j = 1 ∨ j = 2 ∨ j = 3 ∨ j = 4 ∨ j = 5 ∨ j = 6 ∨ j = 7 ∨ j = 8 := by omega
  · rw [if_pos (by decide), xcall_eta, if_neg (by decide), if_neg (by decide), if_neg (by decide), if_pos (by decide), show 4 * i + 1 = 4 * i + 1 + 0 from rfl, show 4 * i + 2 = 4 * i + 1 + 1 from rfl, show 4 * i + 3 = 4 * i + 1 + 2 from rfl, p2' (by decide) 0 (by decide), p2' (by decide) 1 (by decide), p2' (by decide) 2 (by decide)]
    exact co_post hN hR hM h hu (by omega) (by omega) (by omega)
  · rw [if_neg (by decide), if_pos (by decide), xcall_eta, if_pos (by decide), show 4 * i + 1 = 4 * i + 1 + 0 from rfl, p2' (by decide) 0 (by decide)]
    exact co_back hN hR hM h hu (by omega)
  · have hk := q3 rfl
    have hkd := (isKdB_t hk).1
    unfold isKd at hkd
    rw [if_neg (by decide), if_neg (by decide), if_pos (by decide), xcall_eta, ascii (by omega), if_neg (by decide), if_neg (by decide), if_pos (by decide), show 4 * i + 1 = 4 * i + 1 + 0 from rfl, show 4 * i + 2 = 4 * i + 1 + 1 from rfl, p2' (by decide) 0 (by decide), p2' (by decide) 1 (by decide)]
    exact co_open hN hR hM h hk r1
  · rw [if_neg (by decide), if_neg (by decide), if_neg (by decide), if_pos (by decide), xcall_eta, if_neg (by decide), if_neg (by decide), if_neg (by decide), if_neg (by decide), if_neg (by decide), if_pos (by decide), show 4 * i + 1 = 4 * i + 1 + 0 from rfl, show 4 * i + 2 = 4 * i + 1 + 1 from rfl, p2' (by decide) 0 (by decide), p2' (by decide) 1 (by decide)]
    exact co_buy hN hR hM h hu (by omega) (by omega)
  · rw [if_neg (by decide), if_neg (by decide), if_neg (by decide), if_neg (by decide), if_pos (by decide), xcall_eta, if_neg (by decide), if_neg (by decide), if_neg (by decide), if_neg (by decide), if_pos (by decide), show 4 * i + 1 = 4 * i + 1 + 0 from rfl, show 4 * i + 2 = 4 * i + 1 + 1 from rfl, p2' (by decide) 0 (by decide), p2' (by decide) 1 (by decide)]
    exact co_sell hN hR hM h hu (by omega) (by omega)
  · rw [if_neg (by decide), if_neg (by decide), if_neg (by decide), if_neg (by decide), if_neg (by decide), if_pos (by decide), xcall_eta, if_neg (by decide), if_pos (by decide), show 4 * i + 1 = 4 * i + 1 + 0 from rfl, p2' (by decide) 0 (by decide)]
    exact co_bill hN hR hM h hu (by omega)
  · rw [if_neg (by decide), if_neg (by decide), if_neg (by decide), if_neg (by decide), if_neg (by decide), if_neg (by decide), if_pos (by decide), xcall_eta, if_neg (by decide), if_neg (by decide), if_neg (by decide), if_neg (by decide), if_neg (by decide), if_neg (by decide), if_neg (by decide), if_pos (by decide), show 4 * i + 1 = 4 * i + 1 + 0 from rfl, p2' (by decide) 0 (by decide)]
    exact co_pay hN hR hM h hu (by omega)
  · have p7 := p2 0 (by decide)
    rw [show 4 * i + 1 = 4 * i + 1 + 0 from rfl, p7]
    by_cases e : vs.getD 0 (-1) = -1
    · rw [if_neg (by decide), if_neg (by decide), if_neg (by decide), if_neg (by decide), if_neg (by decide), if_neg (by decide), if_neg (by decide), if_pos (by decide), if_pos (show iI (vs.getD 0 (-1)) = (-1 : Int32) by rw [e]; rfl), if_neg (by decide), if_neg (by decide), if_neg (by decide), if_neg (by decide), if_neg (by decide), if_neg (by decide), if_pos (by decide), if_pos (show (7 : Nat) = 7 ∧ vs.getD 0 (-1) = -1 from ⟨rfl, e⟩), xcall_eta]
      exact co_wait hN hR hM h hu (z := 1) (by omega)
    · rw [if_neg (by decide), if_neg (by decide), if_neg (by decide), if_neg (by decide), if_neg (by decide), if_neg (by decide), if_neg (by decide), if_pos (by decide), if_neg (show ¬ iI (vs.getD 0 (-1)) = (-1 : Int32) by show ¬ iI (vs.getD 0 (-1)) = iI (-1); rw [i_eq (by omega) (by omega) (by omega) (by omega)]; exact e), if_neg (by decide), if_neg (by decide), if_neg (by decide), if_neg (by decide), if_neg (by decide), if_neg (by decide), if_pos (by decide), if_neg (show ¬ ((7 : Nat) = 7 ∧ vs.getD 0 (-1) = -1) from fun hh => e hh.2), xcall_eta]
      exact co_wait hN hR hM h hu (by omega)
  · rw [if_neg (by decide), if_neg (by decide), if_neg (by decide), if_neg (by decide), if_neg (by decide), if_neg (by decide), if_neg (by decide), if_neg (by decide), if_pos (by decide), if_neg (by decide), if_neg (by decide), if_neg (by decide), if_neg (by decide), if_neg (by decide), if_neg (by decide), if_neg (by decide), if_neg (by decide)]
    exact co_fall hN hR hM h hu
end COA
