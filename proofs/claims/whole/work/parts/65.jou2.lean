/-! ===== the reference makes an entry ===== -/
def GJp (g : Nat → Int32) (J : SJ) (p : Nat) : Prop := g 3 = iI (jN J : Int) ∧ g 2 = iI (p : Int) ∧ ∀ j, j < p → g (57 + j) = iI (jD J (jN J - p + j)) ∧ g (77 + j) = iI (jC J (jN J - p + j)) ∧ g (97 + j) = iI (jA J (jN J - p + j)) ∧ g (117 + j) = iI (jH J (jN J - p + j)) ∧ g (137 + j) = iI (jM J (jN J - p + j))
def putE1 (g : Nat → Int32) (p d c : Nat) (a : Int32) : Nat → Int32 := upd (upd (upd g (57 + p) (iI (d : Int))) (77 + p) (iI (c : Int))) (97 + p) a
def putE2 (g : Nat → Int32) (p : Nat) (m : Int32) : Nat → Int32 := upd (upd g (117 + p) (g 0)) (137 + p) m
def putE3 (g : Nat → Int32) (d : Nat) (a : Int32) : Nat → Int32 := upd g (33 + d) (g (33 + d) + a)
def putE4 (g : Nat → Int32) (c : Nat) (a : Int32) : Nat → Int32 := upd g (45 + c) (g (45 + c) + a)
def putE5 (g : Nat → Int32) : Nat → Int32 := upd g 2 (g 2 + iI 1)
def putE6 (g : Nat → Int32) : Nat → Int32 := upd g 3 (g 3 + iI 1)
def putE (g : Nat → Int32) (p d c : Nat) (a m : Int32) : Nat → Int32 := putE6 (putE5 (putE4 (putE3 (putE2 (putE1 g p d c a) p m) d a) c a))
section MP
variable {g : Nat → Int32} {A : SA} {J : SJ} {p d c h : Nat} {a m : Int}
theorem putE_fr (hp : p < 20) (hd : d < 12) (hc : c < 12) {x y : Int32} {k : Nat} (hk : k = 0 ∨ k = 1 ∨ (4 ≤ k ∧ k < 33) ∨ 157 ≤ k) : putE g p d c x y k = g k := by
  unfold putE putE6 putE5 putE4 putE3 putE2 putE1
  simp (disch := omega) only [upd_ne]
theorem putE_3 (hp : p < 20) (hd : d < 12) (hc : c < 12) {x y : Int32} : putE g p d c x y 3 = g 3 + iI 1 := by
  unfold putE putE6 putE5 putE4 putE3 putE2 putE1
  simp (disch := omega) only [upd_ne, upd_eq]
theorem putE_2 (hp : p < 20) (hd : d < 12) (hc : c < 12) {x y : Int32} : putE g p d c x y 2 = g 2 + iI 1 := by
  unfold putE putE6 putE5 putE4 putE3 putE2 putE1
  simp (disch := omega) only [upd_ne, upd_eq]
theorem putE_d (hp : p < 20) (hd : d < 12) (hc : c < 12) {x y : Int32} {i : Nat} (hi : i < 12) : putE g p d c x y (33 + i) = if i = d then g (33 + i) + x else g (33 + i) := by
  unfold putE putE6 putE5 putE4 putE3 putE2 putE1
  by_cases h : i = d
  · subst h
    simp (disch := omega) only [upd_ne, upd_eq, if_true]
  · simp (disch := omega) only [upd_ne, upd_eq, if_neg]
theorem putE_c (hp : p < 20) (hd : d < 12) (hc : c < 12) {x y : Int32} {i : Nat} (hi : i < 12) : putE g p d c x y (45 + i) = if i = c then g (45 + i) + x else g (45 + i) := by
  unfold putE putE6 putE5 putE4 putE3 putE2 putE1
  by_cases h : i = c
  · subst h
    simp (disch := omega) only [upd_ne, upd_eq, if_true]
  · simp (disch := omega) only [upd_ne, upd_eq, if_neg]
theorem putE_j (hp : p < 20) (hd : d < 12) (hc : c < 12) {x y : Int32} {j : Nat} (hj : j < 20) :
    putE g p d c x y (57 + j) = (if j = p then iI (d : Int) else g (57 + j)) ∧ putE g p d c x y (77 + j) = (if j = p then iI (c : Int) else g (77 + j)) ∧ putE g p d c x y (97 + j) = (if j = p then x else g (97 + j)) ∧ putE g p d c x y (117 + j) = (if j = p then g 0 else g (117 + j)) ∧ putE g p d c x y (137 + j) = (if j = p then y else g (137 + j)) := by
  unfold putE putE6 putE5 putE4 putE3 putE2 putE1
  by_cases h : j = p
  · subst h
    simp (disch := omega) only [upd_ne, upd_eq, if_true, and_self]
  · simp (disch := omega) only [upd_ne, upd_eq, if_neg, and_self]
theorem m_put (hA : GA g A) (hJ : GJp g J p) (hp : p = min (jN J) 19) (h0 : g 0 = iI (h : Int)) (hn : aN A ≤ 12) (hd : d < aN A) (hc : c < aN A) : GA (putE g p d c (iI a) (iI m)) (sMove A d c a) ∧ GJ (putE g p d c (iI a) (iI m)) (sEnterJ J d c a h m) := by
  refine ⟨⟨?_, fun i hi => ⟨?_, ?_⟩, fun i hi => ⟨?_, ?_⟩⟩, ⟨?_, ?_, fun j hj => ?_⟩⟩
  · rw [putE_fr (by omega) (by omega) (by omega) (by omega)]; exact hA.1
  · have hi : i < aN A := hi
    rw [putE_fr (by omega) (by omega) (by omega) (by omega)]; exact hA.k hi
  · have hi : i < aN A := hi
    rw [putE_fr (by omega) (by omega) (by omega) (by omega)]; exact hA.p hi
  · rw [putE_d (by omega) (by omega) (by omega) hi, hA.d hi]
    show _ = iI (updI (aD A) d (aD A d + a) i)
    by_cases e : i = d
    · subst e; rw [if_pos rfl, updI_eq, i_add]
    · rw [if_neg e, updI_ne e]
  · rw [putE_c (by omega) (by omega) (by omega) hi, hA.c hi]
    show _ = iI (updI (aC A) c (aC A c + a) i)
    by_cases e : i = c
    · subst e; rw [if_pos rfl, updI_eq, i_add]
    · rw [if_neg e, updI_ne e]
  · rw [putE_3 (by omega) (by omega) (by omega), hJ.1, i_add]; rfl
  · rw [putE_2 (by omega) (by omega) (by omega), hJ.2.1, i_add]
    congr 1
    show (p : Int) + 1 = ((min (jN J + 1) 20 : Nat) : Int)
    omega
  · have hj : j < min (jN J + 1) 20 := hj
    obtain ⟨q1, q2, q3, q4, q5⟩ := putE_j (g := g) (p := p) (d := d) (c := c) (by omega) (by omega) (by omega) (x := iI a) (y := iI m) (j := j) (by omega)
    rw [q1, q2, q3, q4, q5]
    have e9 : jN (sEnterJ J d c a h m) - jK (sEnterJ J d c a h m) + j = jN J + 1 - min (jN J + 1) 20 + j := rfl
    rw [e9]
    show _ = iI (updI (jD J) (jN J) d _) ∧ _ = iI (updI (jC J) (jN J) c _) ∧ _ = iI (updI (jA J) (jN J) a _) ∧ _ = iI (updI (jH J) (jN J) h _) ∧ _ = iI (updI (jM J) (jN J) m _)
    by_cases e : j = p
    · subst e
      rw [if_pos rfl, if_pos rfl, if_pos rfl, if_pos rfl, if_pos rfl, show jN J + 1 - min (jN J + 1) 20 + j = jN J by omega, updI_eq, updI_eq, updI_eq, updI_eq, updI_eq]
      exact ⟨rfl, rfl, rfl, h0, rfl⟩
    · rw [if_neg e, if_neg e, if_neg e, if_neg e, if_neg e, show jN J + 1 - min (jN J + 1) 20 + j = jN J - p + j by omega, updI_ne (by omega), updI_ne (by omega), updI_ne (by omega), updI_ne (by omega), updI_ne (by omega)]
      exact hJ.2.2 j (by omega)
end MP
section MQ
variable {s : MS} {A : SA} {J : SJ}
theorem shE_out {g : Nat → Int32} {k : Nat} (hk : k < 57 ∨ 157 ≤ k) : shE 5 g k = g k := by
  unfold shE
  rw [if_neg (by omega)]
theorem shE_in {g : Nat → Int32} {j : Nat} (hj : j < 19) : shE 5 g (57 + j) = g (57 + (j + 1)) ∧ shE 5 g (77 + j) = g (77 + (j + 1)) ∧ shE 5 g (97 + j) = g (97 + (j + 1)) ∧ shE 5 g (117 + j) = g (117 + (j + 1)) ∧ shE 5 g (137 + j) = g (137 + (j + 1)) := by
  unfold shE
  rw [if_pos (by omega), if_pos (by omega), if_pos (by omega), if_pos (by omega), if_pos (by omega)]
  exact ⟨rfl, rfl, rfl, rfl, rfl⟩
def putB (v1_1 v2_1 v3_1 v4_1 : Int32) (s0_1 : MS) : Option (Int32 × MS) :=
      xlet (s0_1.1 2) fun x2 =>
      xrd 229 (57 + x2) fun k3 =>
      xlet (upd s0_1.1 k3 v1_1) fun g4 =>
      xrd 229 (77 + x2) fun k5 =>
      xlet (upd g4 k5 v2_1) fun g6 =>
      xrd 229 (97 + x2) fun k7 =>
      xlet (upd g6 k7 v3_1) fun g8 =>
      xrd 229 (117 + x2) fun k9 =>
      xlet (upd g8 k9 (g8 0)) fun g10 =>
      xrd 229 (137 + x2) fun k11 =>
      xlet (upd g10 k11 v4_1) fun g12 =>
      xrd 229 (33 + v1_1) fun k13 =>
      xrd 229 (33 + v1_1) fun k14 =>
      xlet (upd g12 k14 ((g12 k13) + v3_1)) fun g15 =>
      xrd 229 (45 + v2_1) fun k16 =>
      xrd 229 (45 + v2_1) fun k17 =>
      xlet (upd g15 k17 ((g15 k16) + v3_1)) fun g18 =>
      xlet (upd g18 2 ((g18 2) + 1)) fun g19 =>
      xlet (upd g19 3 ((g19 3) + 1)) fun g20 =>
      some ((g20 3) - 1, (Ms0 s0_1 g20))
theorem enters_B (N : Nat) (a1 a2 a3 a4 : Int32) (s0 : MS) : fX13_enters N a1 a2 a3 a4 s0 = if s0.1 2 = 20 then fX13_enters_L15 N (fun v1 v2 v3 v4 s1 => xlet (upd s1.1 2 ((s1.1 2) - 1)) fun g => putB v1 v2 v3 v4 (Ms0 s1 g)) N a1 a2 a3 a4 57 s0 else putB a1 a2 a3 a4 s0 := rfl
theorem put_at {s : MS} {p d c : Nat} (h2 : s.1 2 = iI (p : Int)) (hp : p < 20) (hd : d < 12) (hc : c < 12) (x y : Int32) : putB (iI (d : Int)) (iI (c : Int)) x y s = some (s.1 3 + iI 1 - iI 1, Ms0 s (putE s.1 p d c x y)) := by
  have e3 := putE_3 (g := s.1) (x := x) (y := y) hp hd hc
  unfold putB
  simp (disch := omega) only [xlet, h2, i_lit, i_add, xrd_ln]
  rw [← e3]
  unfold putE putE6 putE5 putE4 putE3 putE2 putE1
  have e : upd (upd (upd s.1 (57 + p) (iI ↑d)) (77 + p) (iI ↑c)) (97 + p) x 0 = s.1 0 := by
    simp (disch := omega) only [upd_ne]
  rfl
/-- the reference's enters: what it returns, what it leaves -/
theorem m_enters {N : Nat} (hN : 2000 ≤ N) (hA : GA s.1 A) (hJ : GJ s.1 J) {h : Nat} (h0 : s.1 0 = iI (h : Int)) (hn : aN A ≤ 12) (hj : jN J < 1000000) {d c : Nat} (hd : d < aN A) (hc : c < aN A) (a m : Int) : ∃ g', fX13_enters N (iI (d : Int)) (iI (c : Int)) (iI a) (iI m) s = some (iI (jN J : Int), Ms0 s g') ∧ GA g' (sMove A d c a) ∧ GJ g' (sEnterJ J d c a h m) ∧ ∀ k, k = 0 ∨ k = 1 ∨ (4 ≤ k ∧ k < 9) ∨ 157 ≤ k → g' k = s.1 k := by
  have hk := jK_le J
  rw [enters_B, hJ.2.1, i_lit]
  by_cases hf : jK J = 20
  · have hj20 : 20 ≤ jN J := by unfold jK at hf; omega
    have e2 : (upd (shE 5 s.1) 2 (iI 19)) 2 = iI ((19 : Nat) : Int) := upd_eq
    have hA1 : GA (upd (shE 5 s.1) 2 (iI 19)) A := hA.of hn fun k hk => by rw [upd_ne (by omega), shE_out (by omega)]
    have hJ1 : GJp (upd (shE 5 s.1) 2 (iI 19)) J 19 := by
      refine ⟨?_, e2, fun j hj => ?_⟩
      · rw [upd_ne (by omega), shE_out (by omega)]; exact hJ.1
      · obtain ⟨q1, q2, q3, q4, q5⟩ := shE_in (g := s.1) hj
        rw [upd_ne (by omega), upd_ne (by omega), upd_ne (by omega), upd_ne (by omega), upd_ne (by omega), q1, q2, q3, q4, q5]
        have := hJ.2.2 (j + 1) (by omega)
        rw [show jN J - jK J + (j + 1) = jN J - 19 + j by omega] at this
        exact this
    obtain ⟨r1, r2⟩ := m_put hA1 hJ1 (by omega) (h := h) (by rw [upd_ne (by omega), shE_out (by omega)]; exact h0) hn hd hc (a := a) (m := m)
    refine ⟨_, ?_, r1, r2, fun k hk => ?_⟩
    · rw [hf, if_pos (show iI ((20 : Nat) : Int) = iI 20 from rfl), show (57 : Int32) = iI 57 from rfl, m_entersShift hN]
      have e3 : (Ms0 s (shE 5 s.1)).1 2 - 1 = iI 19 := by
        show shE 5 s.1 2 - 1 = _
        rw [shE_out (by omega), hJ.2.1, hf]; rfl
      unfold xlet
      show putB (iI (d : Int)) (iI (c : Int)) (iI a) (iI m) (Ms0 s (upd (shE 5 s.1) 2 ((Ms0 s (shE 5 s.1)).1 2 - 1))) = _
      rw [e3]
      rw [put_at (p := 19) e2 (by omega) (by omega) (by omega)]
      show some (upd (shE 5 s.1) 2 (iI 19) 3 + iI 1 - iI 1, _) = _
      rw [upd_ne (by omega), shE_out (by omega), hJ.1, i_add, i_sub, show ((jN J : Int) + 1 - 1) = jN J by omega]
    · rw [putE_fr (by omega) (by omega) (by omega) (by omega), upd_ne (by omega), shE_out (by omega)]
  · have hk2 : jK J = jN J := by unfold jK at hf ⊢; omega
    have hJ1 : GJp s.1 J (jK J) := ⟨hJ.1, hJ.2.1, hJ.2.2⟩
    obtain ⟨r1, r2⟩ := m_put hA hJ1 (by omega) h0 hn hd hc (a := a) (m := m)
    refine ⟨_, ?_, r1, r2, fun k hk => ?_⟩
    · rw [if_neg, put_at hJ.2.1 (by omega) (by omega) (by omega), hJ.1, i_add, i_sub, show ((jN J : Int) + 1 - 1) = jN J by omega]
      rw [i_eq (by omega) (by omega) (by omega) (by omega)]
      omega
    · rw [putE_fr (by omega) (by omega) (by omega) (by omega)]
end MQ
