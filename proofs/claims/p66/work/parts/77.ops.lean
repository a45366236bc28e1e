/-! ===== what each change does to the mathematical state ===== -/
def wA (S : SG) (A : SA) : SG := (A, S.2)
def wJ (S : SG) (J : SJ) : SG := (S.1, J, S.2.2)
def wP (S : SG) (P : SP) : SG := (S.1, S.2.1, P, S.2.2.2)
def wL (S : SG) (L : SL) : SG := (S.1, S.2.1, S.2.2.1, L, S.2.2.2.2)
def wB (S : SG) (B : SB) : SG := (S.1, S.2.1, S.2.2.1, S.2.2.2.1, B, S.2.2.2.2.2)
def wC (S : SG) (c : Nat) : SG := (S.1, S.2.1, S.2.2.1, S.2.2.2.1, S.2.2.2.2.1, S.2.2.2.2.2.1, c)
def sEnt (S : SG) (d c : Nat) (m mk : Int) : SG := (sMove (gA S) d c m, sEnterJ (gJ S) d c m (gH S) mk, S.2.2)
def sRev (S : SG) (e : Nat) : SG := sEnt (wJ S (sMark (gJ S) e 1)) (jC (gJ S) e).toNat (jD (gJ S) e).toNat (jA (gJ S) e) 2
def sBuy (S : SG) (k p : Int) : SG := sEnt (wL S (gL S ++ [(k, p)])) 1 0 (k * p) 0
def sSell (S : SG) (k p : Int) : SG := sEnt (sEnt (wL S (sTake k (gL S))) 0 4 (k * p) 0) 5 1 (sCost k (gL S)) 0
def sBill (S : SG) (m : Int) : SG := sEnt (wB S ((gB S).1 ++ [(((gB S).2 : Int), m)], (gB S).2 + 1)) 2 4 m 0
def chS (S : SG) (m : Int) : Nat := choN m (gB S).1 (2 ^ (gB S).1.length)
def payB (S : SG) (m : Int) : List (Int × Int) := if chS S m = 0 then fltI 0 0 (ordP m (gB S).1) else fltI (chS S m) 0 (gB S).1
def sPay (S : SG) (m : Int) : SG := sEnt (wB S (payB S m, (gB S).2)) 0 2 m 0
def isIE (S : SG) (i : Nat) : Prop := aK (gA S) i = 105 ∨ aK (gA S) i = 101
def difA (S : SG) (i : Nat) : Int := aD (gA S) i - aC (gA S) i
def sLev (S : SG) (i : Nat) : SG := if (aK (gA S) i = 105 ∨ aK (gA S) i = 101) ∧ difA S i ≠ 0 then (if 0 < difA S i then sEnt S 3 i (difA S i) 0 else sEnt S i 3 (-(difA S i)) 0) else S
def sLevs : Nat → SG → SG
  | 0, S => S
  | k + 1, S => sLev (sLevs k S) k
def sFall (S : SG) : SG := wC (sLevs (aN (gA S)) S) (gC S + 1)
def sOpen (S : SG) (k p : Int) : SG := wA S (sAdd (gA S) k p)
section WO
variable {S : SG}
theorem ent_psi {d c : Nat} (hd : d < aN (gA S)) (hc : c < aN (gA S)) {m mk : Int} (hm : 0 ≤ m) : psi (sEnt S d c m mk) ≤ psi S + (if d = 3 then 0 else m) + (if c = 3 then 0 else m) + (if mk = 0 ∧ 999 < m then m else 0) := by
  have p3 := nbS_move (A := gA S) hd hc hm
  have p4 := enter_big (gJ S) d c m (gH S) mk
  show nbS (sMove (gA S) d c m) + bigE (sEnterJ (gJ S) d c m (gH S) mk) + 2 * pV (gP S) ≤ nbS (gA S) + bigE (gJ S) + 2 * pV (gP S) + _ + _ + _
  omega
theorem ent_sdp {d c : Nat} (hd : d < aN (gA S)) {m mk : Int} : sdp (sEnt S d c m mk) = sdp S + m := by
  have p5 := sum_move (A := gA S) (c := c) hd (m := m)
  show sumN (aD (sMove (gA S) d c m)) (aN (sMove (gA S) d c m)) + pV (gP S) = sumN (aD (gA S)) (aN (gA S)) + pV (gP S) + m
  rw [show sumN (aD (sMove (gA S) d c m)) (aN (sMove (gA S) d c m)) = sumN (aD (gA S)) (aN (gA S)) + m from p5]
  omega
theorem ent_W (h : WG S) {d c : Nat} (hd : d < aN (gA S)) (hc : c < aN (gA S)) {m mk : Int} (hm : 0 ≤ m ∧ m < 268435456) (hk : 0 ≤ mk ∧ mk ≤ 2) (hb : mk = 0 → 999 < m → d = 3 ∨ c = 3) (hj : jN (gJ S) + 1 < 1000000) (hp : psi (sEnt S d c m mk) < 268435456) (hs : sdp S + m < 2147483648) : WG (sEnt S d c m mk) := by
  obtain ⟨a1, a2, a3, a4, a5, a6, a7, a8, a9⟩ := h
  exact ⟨move_W a1 hd hc hm.1, enter_W a2 hj (by omega) (by omega) hm hk (by omega), a3, a4, a5, a6, a7, hp, by rw [ent_sdp hd]; exact hs⟩
theorem open_W (h : WG S) (hn : aN (gA S) < 12) {k p : Int} (hk : isKd k) (hp : -1 ≤ p ∧ p < aN (gA S)) : WG (sOpen S k p) ∧ psi (sOpen S k p) = psi S ∧ sdp (sOpen S k p) = sdp S := by
  obtain ⟨a1, a2, a3, a4, a5, a6, a7, a8, a9⟩ := h
  have z := a1.2.2.2.2.1 (aN (gA S)) (Nat.le_refl _)
  have e1 : sumN (aD (gA S)) (aN (gA S) + 1) = sumN (aD (gA S)) (aN (gA S)) := by rw [sumN, z.1, Int.add_zero]
  have e2 : sumN (aC (gA S)) (aN (gA S) + 1) = sumN (aC (gA S)) (aN (gA S)) := by rw [sumN, z.2, Int.add_zero]
  have e3 : nbS (sAdd (gA S) k p) = nbS (gA S) := by
    show sumN (nb (gA S)) (aN (gA S) + 1) = sumN (nb (gA S)) (aN (gA S))
    rw [sumN]
    have : nb (gA S) (aN (gA S)) = 0 := by
      unfold nb
      rw [z.1, z.2]
      split
      · rfl
      · rfl
    rw [this, Int.add_zero]
  have e4 : psi (sOpen S k p) = psi S := by
    show nbS (sAdd (gA S) k p) + bigE (gJ S) + 2 * pV (gP S) = _
    rw [e3]; rfl
  have e5 : sdp (sOpen S k p) = sdp S := by
    show sumN (aD (gA S)) (aN (gA S) + 1) + pV (gP S) = _
    rw [e1]; rfl
  refine ⟨⟨⟨?_, ?_, fun i hi => ?_, ?_, fun i hi => ?_, ?_⟩, a2.later (Nat.le_succ _) (Nat.le_refl _), a3.more (Nat.le_succ _), a4, a5, a6, a7, by rw [e4]; exact a8, by rw [e5]; exact a9⟩, e4, e5⟩
  · show 6 ≤ aN (gA S) + 1
    have := a1.1
    omega
  · show aN (gA S) + 1 ≤ 12
    omega
  · have hi : i < aN (gA S) + 1 := hi
    show isKd (updI (aK (gA S)) (aN (gA S)) k i) ∧ -1 ≤ updI (aP (gA S)) (aN (gA S)) p i ∧ updI (aP (gA S)) (aN (gA S)) p i < i ∧ 0 ≤ aD (gA S) i ∧ 0 ≤ aC (gA S) i
    by_cases e : i = aN (gA S)
    · subst e
      rw [updI_eq, updI_eq, z.1, z.2]
      exact ⟨hk, hp.1, hp.2, Int.le_refl _, Int.le_refl _⟩
    · rw [updI_ne e, updI_ne e]
      exact a1.2.2.1 i (by omega)
  · show sumN (aD (gA S)) (aN (gA S) + 1) = sumN (aC (gA S)) (aN (gA S) + 1)
    rw [e1, e2]
    exact a1.2.2.2.1
  · have hi : aN (gA S) + 1 ≤ i := hi
    exact a1.2.2.2.2.1 i (by omega)
  · show updI (aK (gA S)) (aN (gA S)) k 3 = 108
    have := a1.1
    rw [updI_ne (by omega)]
    exact a1.2.2.2.2.2
theorem wL_W (h : WG S) {L : SL} (hL : WL L) : WG (wL S L) := by
  obtain ⟨a1, a2, a3, a4, a5, a6, a7, a8, a9⟩ := h
  exact ⟨a1, a2, a3, hL, a5, a6, a7, a8, a9⟩
theorem wB_W (h : WG S) {B : SB} (hB : WB B) : WG (wB S B) := by
  obtain ⟨a1, a2, a3, a4, a5, a6, a7, a8, a9⟩ := h
  exact ⟨a1, a2, a3, a4, hB, a6, a7, a8, a9⟩
theorem mark_W (h : WG S) {e : Nat} (h1 : jN (gJ S) - jK (gJ S) ≤ e) (h2 : e < jN (gJ S)) : WG (wJ S (sMark (gJ S) e 1)) ∧ psi (wJ S (sMark (gJ S) e 1)) = psi S - eW (gJ S) e ∧ sdp (wJ S (sMark (gJ S) e 1)) = sdp S := by
  obtain ⟨a1, a2, a3, a4, a5, a6, a7, a8, a9⟩ := h
  have e1 : psi (wJ S (sMark (gJ S) e 1)) = psi S - eW (gJ S) e := by
    have := mark_big h1 h2 (m := 1) (by decide)
    show nbS (gA S) + bigE (sMark (gJ S) e 1) + 2 * pV (gP S) = nbS (gA S) + bigE (gJ S) + 2 * pV (gP S) - _
    omega
  have := eW_nn (gJ S) e
  refine ⟨⟨a1, ⟨a2.1, fun x h3 h4 => ?_⟩, a3, a4, a5, a6, a7, by omega, a9⟩, e1, rfl⟩
  have q := a2.2 x h3 h4
  show 0 ≤ jD (gJ S) x ∧ _ ∧ _ ∧ _ ∧ _ ∧ _ ∧ _ ∧ _ ∧ 0 ≤ updI (jM (gJ S)) e 1 x ∧ updI (jM (gJ S)) e 1 x ≤ 2 ∧ (updI (jM (gJ S)) e 1 x = 0 → _)
  by_cases e9 : x = e
  · subst e9
    rw [updI_eq]
    exact ⟨q.1, q.2.1, q.2.2.1, q.2.2.2.1, q.2.2.2.2.1, q.2.2.2.2.2.1, q.2.2.2.2.2.2.1, q.2.2.2.2.2.2.2.1, by decide, by decide, fun h => absurd h (by decide)⟩
  · rw [updI_ne e9]
    exact q
end WO
/-! the class's books -/
section CO
variable {b : BooS} {S : SG}
theorem c_ent (N : Nat) (h : RBo b S) (w : WG S) {d c : Nat} (hd : d < aN (gA S)) (hc : c < aN (gA S)) (m : Int) : ∃ b', fX3_makeEntry N (iI (d : Int)) (iI (c : Int)) (iL m) b = some (iI (jN (gJ S) : Int), b') ∧ RBo b' (sEnt S d c m 0) := by
  obtain ⟨r1, r2, r3, r4, r5, r6, r7⟩ := h
  obtain ⟨a', j', e, q1, q2⟩ := c_makeEntry N r1 r2 r6 w.1.2.1 w.2.1.1 hd hc m
  exact ⟨_, e, q1, q2, r3, r4, r5, r6, r7⟩
theorem c_rev (N : Nat) (h : RBo b S) (w : WG S) (hj : jN (gJ S) + 1 < 1000000) {e : Nat} (h1 : jN (gJ S) - jK (gJ S) ≤ e) (h2 : e < jN (gJ S)) : ∃ b', fX3_makeReversal N (iI (e : Int)) b = some (iI (jN (gJ S) : Int), b') ∧ RBo b' (sRev S e) := by
  obtain ⟨r1, r2, r3, r4, r5, r6, r7⟩ := h
  have q := w.2.1.2 e h1 h2
  obtain ⟨d, hd⟩ := Int.eq_ofNat_of_zero_le q.1
  obtain ⟨c, hc⟩ := Int.eq_ofNat_of_zero_le q.2.2.1
  obtain ⟨j1, m1, m2⟩ := c_markReversed N r2 w.2.1.1 h1 h2
  obtain ⟨a', j', e3, q1, q2⟩ := c_makeEntry N (b := Boos1 b j1) r1 m2 r6 w.1.2.1 w.2.1.1 (d := c) (c := d) (by omega) (by omega) (jA (gJ S) e)
  obtain ⟨j2, m3, m4⟩ := c_markReversal N q2 hj (e := jN (gJ S)) (by show jN (gJ S) + 1 - min (jN (gJ S) + 1) 20 ≤ _; omega) (by show jN (gJ S) < jN (gJ S) + 1; omega)
  refine ⟨(a', j2, b.2.2), ?_, ?_, ?_, r3, r4, r5, r6, r7⟩
  · unfold fX3_makeReversal
    rw [m1, xcall_s, c_jcre N m2 w.2.1.1 h1 h2, xcall_s, c_jdeb N m2 w.2.1.1 h1 h2, xcall_s, c_jamt N m2 w.2.1.1 h1 h2, xcall_s]
    show xcall (fX3_makeEntry N (iI (jC (gJ S) e)) (iI (jD (gJ S) e)) (iL (jA (gJ S) e)) (Boos1 b j1)) _ = _
    rw [hd, hc, e3, xcall_s]
    show xcall (fX6_markReversal N (iI (jN (gJ S) : Int)) j') _ = _
    rw [m3, xcall_s]
    rfl
  · show RA a' (sMove (gA S) (jC (gJ S) e).toNat (jD (gJ S) e).toNat (jA (gJ S) e))
    rw [hd, hc]
    exact q1
  · have e9 : sMark (sEnterJ (sMark (gJ S) e 1) c d (jA (gJ S) e) (gH S) 0) (jN (gJ S)) 2 = sEnterJ (sMark (gJ S) e 1) c d (jA (gJ S) e) (gH S) 2 := by
      show (jN (gJ S) + 1, updI (jD (gJ S)) (jN (gJ S)) c, updI (jC (gJ S)) (jN (gJ S)) d, updI (jA (gJ S)) (jN (gJ S)) (jA (gJ S) e), updI (jH (gJ S)) (jN (gJ S)) (gH S), updI (updI (updI (jM (gJ S)) e 1) (jN (gJ S)) 0) (jN (gJ S)) 2) = (jN (gJ S) + 1, updI (jD (gJ S)) (jN (gJ S)) c, updI (jC (gJ S)) (jN (gJ S)) d, updI (jA (gJ S)) (jN (gJ S)) (jA (gJ S) e), updI (jH (gJ S)) (jN (gJ S)) (gH S), updI (updI (jM (gJ S)) e 1) (jN (gJ S)) 2)
      have : updI (updI (updI (jM (gJ S)) e 1) (jN (gJ S)) 0) (jN (gJ S)) 2 = updI (updI (jM (gJ S)) e 1) (jN (gJ S)) 2 := by
        funext x
        unfold updI
        split <;> rfl
      rw [this]
    show RJ j2 (sEnterJ (sMark (gJ S) e 1) ((jC (gJ S) e).toNat : Int) ((jD (gJ S) e).toNat : Int) (jA (gJ S) e) (gH S) 2)
    rw [hd, hc, Int.toNat_natCast, Int.toNat_natCast, ← e9]
    exact m4
theorem c_buyLot (N : Nat) (h : RBo b S) (w : WG S) (hl : (gL S).length < 8) {k p : Int} (hk : 1 ≤ k ∧ k ≤ 20) (hp : 1 ≤ p ∧ p ≤ 40) : ∃ b', fX3_buyLot N (iI k) (iI p) b = some (iI (k * p), b') ∧ RBo b' (sBuy S k p) := by
  have hn := w.1.1
  have m0 : 0 ≤ k * p := Int.mul_nonneg (by omega) (by omega)
  have m1 : k * p ≤ 20 * 40 := Int.mul_le_mul (by omega) (by omega) (by omega) (by omega)
  obtain ⟨b1, e1, r1⟩ := c_ent N h w (d := 1) (c := 0) (by omega) (by omega) (k * p)
  obtain ⟨r1, r2, r3, r4, r5, r6, r7⟩ := r1
  obtain ⟨w', e2, q⟩ := c_lotAdd N r4 hl k p
  refine ⟨Boos3 b1 w', ?_, r1, r2, r3, q, r5, r6, r7⟩
  unfold fX3_buyLot
  rw [i_mul]
  unfold xlet
  dsimp only
  rw [i_toL (by omega) (by omega)]
  rw [show (1 : Int32) = iI ((1 : Nat) : Int) from rfl, show (0 : Int32) = iI ((0 : Nat) : Int) from rfl, e1, xcall_s]
  show xcall (fX11_add N (iI k) (iI p) b1.2.2.2.1) _ = _
  rw [e2, xcall_s]
theorem c_sellC {N : Nat} {k p : Int} (hN : 2000 ≤ N) (h : RBo b S) (w : WG S) (w2 : WG (sEnt S 0 4 (k * p) 0)) (hk : 1 ≤ k ∧ k ≤ 20) (hp : 1 ≤ p ∧ p ≤ 40) : ∃ b', fX3_sellCostumes N (iI k) (iI p) b = some (iI (sCost k (gL S)), b') ∧ RBo b' (sSell S k p) := by
  have hn := w.1.1
  have m0 : 0 ≤ k * p := Int.mul_nonneg (by omega) (by omega)
  have m1 : k * p ≤ 20 * 40 := Int.mul_le_mul (by omega) (by omega) (by omega) (by omega)
  have hc := sCost_rng w.2.2.2.1 k (by omega)
  have hll := w.2.2.2.1.1
  have h4 := h.2.2.2.1
  obtain ⟨b1, e1, r1⟩ := c_ent N h w (d := 0) (c := 4) (by omega) (by omega) (k * p)
  obtain ⟨b2, e2, r2⟩ := c_ent N r1 w2 (d := 5) (c := 1) (by show 5 < aN (gA S); omega) (by show 1 < aN (gA S); omega) (sCost k (gL S))
  obtain ⟨r1, r2, r3, r4, r5, r6, r7⟩ := r2
  obtain ⟨w', e3, q⟩ := c_take hN r4 w.2.2.2.1 (k := k) (by omega)
  refine ⟨Boos3 b2 w', ?_, r1, r2, r3, q, r5, r6, r7⟩
  unfold fX3_sellCostumes
  rw [c_costByLots hN h4 w.2.2.2.1 (by omega), xcall_s, i_mul, i_toL (by omega) (by omega), i_toL (by omega) (by omega)]
  rw [show (1 : Int32) = iI ((1 : Nat) : Int) from rfl, show (0 : Int32) = iI ((0 : Nat) : Int) from rfl, show (4 : Int32) = iI ((4 : Nat) : Int) from rfl, show (5 : Int32) = iI ((5 : Nat) : Int) from rfl, e1, xcall_s]
  show xcall (fX3_makeEntry N (iI ((5 : Nat) : Int)) (iI ((1 : Nat) : Int)) (iL (sCost k (gL S))) b1) _ = _
  rw [e2, xcall_s]
  show xcall (fX11_take N (iI k) b2.2.2.2.1) _ = _
  rw [e3, xcall_s]
theorem c_writeBill (N : Nat) (h : RBo b S) (w : WG S) (hl : (gB S).1.length < 10) {m : Int} (hm : 1 ≤ m ∧ m ≤ 999) : ∃ b', fX3_writeBill N (iI m) b = some (iI ((gB S).2 : Int), b') ∧ RBo b' (sBill S m) := by
  have hn := w.1.1
  obtain ⟨b1, e1, r1⟩ := c_ent N h w (d := 2) (c := 4) (by omega) (by omega) m
  obtain ⟨r1, r2, r3, r4, r5, r6, r7⟩ := r1
  obtain ⟨w', e2, q⟩ := c_bAdd N r5 w.2.2.2.2.1 hl m
  refine ⟨Boos4 b1 w', ?_, r1, r2, r3, r4, q, r6, r7⟩
  unfold fX3_writeBill
  rw [i_toL (by omega) (by omega), show (2 : Int32) = iI ((2 : Nat) : Int) from rfl, show (4 : Int32) = iI ((4 : Nat) : Int) from rfl, e1, xcall_s]
  show xcall (fX2_add N (iI m) b1.2.2.2.2.1) _ = _
  rw [e2, xcall_s]
  rfl
theorem c_takePayment {N : Nat} (hN : 2000 ≤ N) (h : RBo b S) (w : WG S) {m : Int} (hm : 1 ≤ m ∧ m ≤ 999) : ∃ b', fX3_takePayment N (iI m) (iI (chS S m : Int)) b = some (iI (((gB S).1.length : Int) - (payB S m).length), b') ∧ RBo b' (sPay S m) := by
  have hn := w.1.1
  have wb := w.2.2.2.2.1
  have hlt := choN_lt m (gB S).1 (2 ^ (gB S).1.length)
  have hp := two_pow_10 wb.1
  have hch : chS S m < 1024 := by unfold chS; omega
  obtain ⟨b1, e1, r1⟩ := c_ent N h w (d := 0) (c := 2) (by omega) (by omega) m
  obtain ⟨r1, r2, r3, r4, r5, r6, r7⟩ := r1
  unfold fX3_takePayment
  rw [i_toL (by omega) (by omega), show (2 : Int32) = iI ((2 : Nat) : Int) from rfl]
  by_cases hc : chS S m = 0
  · obtain ⟨w', e2, q⟩ := c_payInOrder hN r5 wb (k := m) (by omega)
    refine ⟨Boos4 b1 w', ?_, r1, r2, r3, r4, ?_, r6, r7⟩
    · rw [show (0 : Int32) = iI ((0 : Nat) : Int) from rfl, e1, xcall_s]
      unfold xjoin
      dsimp only
      rw [if_pos (by rw [hc])]
      show xcall (fX2_payInOrder N (iI m) b1.2.2.2.2.1) _ = _
      rw [e2, xcall_s]
      unfold payB
      rw [if_pos hc]
      rfl
    · show RB w' (payB S m, (gB S).2)
      unfold payB
      rw [if_pos hc]
      exact q
  · obtain ⟨w', e2, q⟩ := c_paySet hN r5 wb hch
    refine ⟨Boos4 b1 w', ?_, r1, r2, r3, r4, ?_, r6, r7⟩
    · rw [show (0 : Int32) = iI ((0 : Nat) : Int) from rfl, e1, xcall_s]
      unfold xjoin
      dsimp only
      rw [if_neg (by rw [i_eq (by omega) (by omega) (by omega) (by omega)]; omega)]
      show xcall (fX2_paySet N (iI (chS S m : Int)) b1.2.2.2.2.1) _ = _
      rw [e2, xcall_s]
      unfold payB
      rw [if_neg hc]
      rfl
    · show RB w' (payB S m, (gB S).2)
      unfold payB
      rw [if_neg hc]
      exact q
end CO
