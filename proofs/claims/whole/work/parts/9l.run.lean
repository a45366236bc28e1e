/-! ===== all commands, class and reference ===== -/
def qC (t t' : ThlS) : Prop := t'.2.1 = t.2.1 ∧ t'.2.2.1 = t.2.2.1 ∧ t'.2.2.2.2 = t.2.2.2.2
def qK (s s' : MS) : Prop := s'.2.1 = s.2.1 ∧ s'.2.2.1 = s.2.2.1 ∧ s'.2.2.2.1 = s.2.2.2.1 ∧ s'.2.2.2.2.1 = s.2.2.2.2.1 ∧ s'.2.2.2.2.2.1 = s.2.2.2.2.2.1 ∧ s'.2.2.2.2.2.2.1 = s.2.2.2.2.2.2.1 ∧ s'.2.2.2.2.2.2.2.1 = s.2.2.2.2.2.2.2.1 ∧ s'.2.2.2.2.2.2.2.2.1 = s.2.2.2.2.2.2.2.2.1 ∧ s'.2.2.2.2.2.2.2.2.2.1 = s.2.2.2.2.2.2.2.2.2.1 ∧ s'.2.2.2.2.2.2.2.2.2.2.1 = s.2.2.2.2.2.2.2.2.2.2.1 ∧ s'.2.2.2.2.2.2.2.2.2.2.2.1 = s.2.2.2.2.2.2.2.2.2.2.2.1 ∧ pa s' = pa s
theorem qC.tr {s s' s2 : ThlS} (h : qC s s') (h2 : qC s' s2) : qC s s2 := ⟨h2.1.trans h.1, h2.2.1.trans h.2.1, h2.2.2.trans h.2.2⟩
theorem qC.rf (s : ThlS) : qC s s := ⟨rfl, rfl, rfl⟩
theorem qK.tr {s s' s2 : MS} (h : qK s s') (h2 : qK s' s2) : qK s s2 := by
  obtain ⟨a1, a2, a3, a4, a5, a6, a7, a8, a9, a10, a11, a12⟩ := h
  obtain ⟨b1, b2, b3, b4, b5, b6, b7, b8, b9, b10, b11, b12⟩ := h2
  exact ⟨b1.trans a1, b2.trans a2, b3.trans a3, b4.trans a4, b5.trans a5, b6.trans a6, b7.trans a7, b8.trans a8, b9.trans a9, b10.trans a10, b11.trans a11, b12.trans a12⟩
theorem qK.rf (s : MS) : qK s s := ⟨rfl, rfl, rfl, rfl, rfl, rfl, rfl, rfl, rfl, rfl, rfl, rfl⟩
theorem qK.up (s : MS) (g : Nat → Int32) (x : Int32) : qK s (Ms12 (Ms0 s g) x) := qK.rf s
theorem qK.u12 (s : MS) (x : Int32) : qK s (Ms12 s x) := qK.rf s
section RU
variable {N : Nat}
/-- how the two loops end -/
def RUo (N : Nat) (C : List (Nat × List Int)) (Kc : Int32 → ThlS → (Nat → BooS) → Option (Nat × Int32 × ThlS × (Nat → BooS))) (Km : Int32 → MS → Option (Int32 × MS)) (lc : Option (Nat × Int32 × ThlS × (Nat → BooS))) (lm : Option (Int32 × MS)) (t : ThlS) (s : MS) (r : Nat → BooS) (A : Nat) (a b : Nat) : Prop := (∃ S' t' s' a' b', a' + b' = A ∧ a ≤ a' ∧ b ≤ b' ∧ WS a' b' S' ∧ lc = Kc (iI (C.length : Int)) t' r ∧ RBo t'.1 S' ∧ qC t t' ∧ lm = Km (iI (C.length : Int)) s' ∧ GG s'.1 S' ∧ qK s s') ∨ (∃ (k : Nat) (v : Int32) (t' : ThlS) (s' : MS), k < C.length ∧ lc = Kc (iI (k : Int)) t' r ∧ qC t t' ∧ (lm = xcall (fX13_kept N v (Ms12 (Ms9 s' (iI (k : Int))) 2)) fun q => some (q.1, q.2)) ∧ qK s s')
theorem run_loop (hN : 2000 ≤ N) {C : List (Nat × List Int)} (hC12 : C.length ≤ 12) (hV : ∀ c ∈ C, VC c) (Kc : Int32 → ThlS → (Nat → BooS) → Option (Nat × Int32 × ThlS × (Nat → BooS))) (Km : Int32 → MS → Option (Int32 × MS)) (r : Nat → BooS) : ∀ (m n n2 i : Nat) (t : ThlS) (s : MS) (S : SG) (a b : Nat), i + m = C.length → m + 1 ≤ n → m + 1 ≤ n2 → RCm t.2.2.2.2.1 C → PCs (pa s) C → RBo t.1 S → GG s.1 S → WS a b S → a + b + m ≤ 512 → RUo N C Kc Km (fX12_runCommands_L55 N Kc n (iI (i : Int)) t r) (fX13_runCommands_L130 N Km n2 (iI (C.length : Int)) (iI (i : Int)) s) t s r (a + b + m) a b := by
  intro m
  induction m with
  | zero =>
    intro n n2 i t s S a b him hn hn2 hC hP hR hM h hu
    obtain ⟨n, rfl⟩ : ∃ k, n = k + 1 := ⟨n - 1, by omega⟩
    obtain ⟨n2, rfl⟩ : ∃ k, n2 = k + 1 := ⟨n2 - 1, by omega⟩
    obtain rfl : i = C.length := by omega
    refine .inl ⟨S, t, s, a, b, by omega, Nat.le_refl _, Nat.le_refl _, h, ?_, hR, qC.rf t, ?_, hM, qK.rf s⟩
    · rw [fX12_runCommands_L55, hC.1, if_pos (by rw [i_le (by omega) (by omega) (by omega) (by omega)]; omega)]
    · rw [fX13_runCommands_L130, if_pos (by rw [i_le (by omega) (by omega) (by omega) (by omega)]; omega)]
  | succ m ih =>
    intro n n2 i t s S a b him hn hn2 hC hP hR hM h hu
    obtain ⟨n, rfl⟩ : ∃ k, n = k + 1 := ⟨n - 1, by omega⟩
    obtain ⟨n2, rfl⟩ : ∃ k, n2 = k + 1 := ⟨n2 - 1, by omega⟩
    obtain ⟨c, hc⟩ : ∃ c, C[i]? = some c := ⟨_, List.getElem?_eq_getElem (by omega)⟩
    have hco := co_all hN hC hc (by omega) (hP i c hc) (hV c (List.mem_of_getElem? hc)) hR hM h (by omega)
    have e4 : 4 * iI (i : Int) = iI ((4 * i : Nat) : Int) := by rw [i_lit, i_mul]; congr 1
    have e1 : iI (i : Int) + 1 = iI ((i + 1 : Nat) : Int) := by rw [i_lit, i_add]; rfl
    rw [fX12_runCommands_L55, hC.1, if_neg (by rw [i_le (by omega) (by omega) (by omega) (by omega)]; omega), fX13_runCommands_L130, if_neg (by rw [i_le (by omega) (by omega) (by omega) (by omega)]; omega), e4]
    rcases hco with ⟨S', b', u, v, g', ⟨a2, b2, n1, n2', n3, n4⟩, c1, c2, c3, c4⟩ | ⟨q, v, k, q0, q6, c1, c2, k1, k9⟩
    · rw [c1, xcall_s, c3, xcall_s]
      have hr := ih n n2 (i + 1) (Thls3 (Thls0 t b') u) (Ms12 (Ms0 s g') (iI 0)) S' a2 b2 (by omega) (by omega) (by omega) hC hP c2 c4 n4 (by omega)
      have hz : a2 + b2 + m = a + b + (m + 1) := by omega
      unfold xlet
      dsimp only
      rw [xnz_d (by omega), if_pos rfl, if_pos (show iI 0 = (0 : Int32) from rfl), e1]
      rw [hz] at hr
      have qt : qC t (Thls3 (Thls0 t b') u) := qC.rf t
      have qs := qK.up s g' (iI 0)
      rcases hr with ⟨S2, t2, s2, a3, b3, d1, d2, d3, d4, d5, d6, d7, d8, d9, d10⟩ | ⟨k, v2, t2, s2, d1, d2, d3, d4, d5⟩
      · exact .inl ⟨S2, t2, s2, a3, b3, d1, by omega, by omega, d4, d5, d6, qt.tr d7, d8, d9, qs.tr d10⟩
      · exact .inr ⟨k, v2, t2, s2, d1, d2, qt.tr d3, d4, qs.tr d5⟩
    · refine .inr ⟨i, v, t, Ms12 s (iI k), by omega, ?_, qC.rf t, ?_, qK.u12 s (iI k)⟩
      · rw [c1, xcall_s]
        dsimp only
        rw [xnz_d q6, if_neg (by omega)]
      · rw [c2, xcall_s]
        dsimp only
        rw [if_neg (by rw [i_lit, i_eq (by omega) (by omega) (by omega) (by omega)]; omega)]
end RU
def rD (N : Nat) (v : Int32) (s : MS) : Option (Int32 × MS) := xcall (fX13_done N v s) fun q7 => xcall (fX13_kept N q7.1 q7.2) fun q8 => some (q8.1, q8.2)
def rJ (N : Nat) (t0 v : Int32) (s : MS) : Option (Int32 × MS) := xnz (xbit t0) <| if t0 = 0 then xcall (fX13_begin N ((Ms14 (Ms7 s 0) t0))) fun q5 => fX13_runCommands_L130 N (rD N) N v 0 q5 else xcall (fX13_fails N 1 ((Ms14 (Ms8 (Ms7 s 0) s.2.2.2.2.2.2.2.2.2.2.2.2.2.1) t0))) fun q15 => some (q15.1, q15.2)
def rK (N : Nat) (v : Int32) (s : MS) : Option (Int32 × MS) := if s.2.2.2.2.2.2.2.2.2.2.2.2.2.2.1 = 0 then (if s.2.2.2.2.2.2.2.1 ≤ s.2.2.2.2.2.2.2.2.2.2.2.2.2.1 then rJ N 0 v s else rJ N 1 v s) else rJ N 1 v s
theorem run_K (N : Nat) (s : MS) : fX13_runCommands N s = fX13_runCommands_L14 N (rK N) N 0 1 (Ms14 (Ms13 s 0) 0) := rfl
def cK (N : Nat) (v : Int32) (t : ThlS) (r : Nat → BooS) : Option (Nat × Int32 × ThlS × (Nat → BooS)) := if t.2.2.2.2.1.2.2.2.2.1 ≤ v then xcall (fX5_keepAside N t.2.2.1) fun q6 => some (0, t.2.2.2.2.1.2.2.2.2.1, (Thls2 t q6), r) else xcall (fX5_putBack N t.2.2.1 t.1 r) fun q7 => some (5, 0, (Thls9 (Thls2 (Thls0 t q7.2.1) q7.1) v), q7.2.2)
theorem runc_K (N : Nat) (t : ThlS) (r : Nat → BooS) : fX12_runCommands N t r = xcall (fX9_read N t.2.2.2.2.1) fun q1 => if q1.1 = 0 then some (3, 0, (Thls8 (Thls4 t ((Scrs1 q1.2 0))) q1.2.2.2.2.2.2), r) else xcall (fX5_setAside N t.2.2.1 t.1 r) fun q3 => fX12_runCommands_L55 N (cK N) N 0 ((Thls4 (Thls2 (Thls0 t q3.2.1) q3.1) ((Scrs1 q1.2 0)))) q3.2.2 := rfl
section SRU
variable {N : Nat} {t : ThlS} {r : Nat → BooS} {s : MS} {W : SO} {a b : Nat}
theorem qT.rm {s s' : MS} (h : qT s s') {W : SO} (hM : RM s W) : RM s' W := by
  obtain ⟨a0, a1, a2, a3, a4, a5, a6, a7, a8, a9, a10, a11, a12⟩ := h
  obtain ⟨m1, m2, m3, ⟨m4, m5⟩, ⟨m6, m7⟩, m8, m9, ⟨m10, m11⟩⟩ := hM
  refine ⟨by rw [a0]; exact m1, by rw [a3]; exact m2, by rw [a2]; exact m3, ⟨by rw [a5]; exact m4, by rw [a4]; exact m5⟩, ⟨by rw [a7]; exact m6, by rw [a6]; exact m7⟩, by rw [a8]; exact m8, by rw [a9]; exact m9, ⟨by rw [a11]; exact m10, by rw [a10]; exact m11⟩⟩
theorem AC.nil (f : Nat → Int32) : AC f [] := fun i c hi => nil_at hi
theorem s_run (hN : 2000 ≤ N) (hR : RT t r W) (hM : RM s W) (hw : WO a b W) (hu : a + b + (oT W).length ≤ 512) : ∃ q v v' t' r' s' W', fX12_runCommands N t r = some (q, v, t', r') ∧ fX13_runCommands N s = some (v', s') ∧ s'.2.2.2.2.2.2.2.2.2.2.2.2.1 = iI (lawC [3, 5] q : Int) ∧ (q = 0 ∨ q ∈ [3, 5]) ∧ (q = 0 → v = v') ∧ RT t' r' W' ∧ RM s' W' ∧ ∃ a' b', a' + b' + (oT W').length ≤ a + b + (oT W).length ∧ WO a' b' W' := by
  have hw0 := hw
  obtain ⟨w1, w2, w3, w4, w5, w6, w7, w8⟩ := hw
  have hwg := w1.1
  obtain ⟨r1, r2, r3, r4, r5, r6, r7⟩ := hR
  have tx : TX (oT W) := w5
  have hl := tx.1
  obtain ⟨sc, x1, x2, x3, x4⟩ := c_read hN r4.1 r4.2 tx
  have hm0 := hM
  obtain ⟨m1, m2, m3, m4, m5, m6, m7, m8⟩ := hM
  obtain ⟨s1, cv, y1, y2, y3, y4⟩ := m_readLoop hN tx (rK N) 12 N 0 [] (Ms14 (Ms13 s 0) 0) (Nat.le_refl _) (by omega) rfl (Nat.zero_le _) (Nat.zero_le _) ⟨m5, rfl, rfl⟩ (fun i c hi => nil_at hi)
  have y1 : fX13_runCommands N s = rK N cv s1 := y1
  have y3 : RQ s1 (oT W) (!(rdT (oT W)).1) (rdT (oT W)).2.2 := y3
  have y4 : (rdT (oT W)).1 = true → cv = iI ((rdT (oT W)).2.1.length : Int) ∧ PCs (pa s1) (rdT (oT W)).2.1 := y4
  have y2 : qT s s1 := (qT.rf s).tr y2
  have hM1 := y2.rm hm0
  have rok : (rdT (oT W)).1 = true → (∀ c ∈ (rdT (oT W)).2.1, VC c) ∧ 5 * (rdT (oT W)).2.1.length + 0 ≤ 5 * ([] : List (Nat × List Int)).length + (rdT (oT W)).2.2 + 1 ∧ ([] : List (Nat × List Int)).length < (rdT (oT W)).2.1.length := fun h => rdC_ok tx 13 0 [] (fun c hc => absurd hc List.not_mem_nil) h
  rw [runc_K, x1, xcall_s, y1]
  by_cases hg : (rdT (oT W)).1 = true ∧ (rdT (oT W)).2.2 = (oT W).length
  · obtain ⟨g1, g2⟩ := hg
    obtain ⟨v1, v2, v3⟩ := rok g1
    obtain ⟨z1, z2⟩ := y4 g1
    simp only [List.length_nil] at v2 v3
    have h3 : RH t.2.2.1 r (oH W) := r3
    obtain ⟨r', k, k1, k2, k3, k4, k5, k6⟩ := c_setAside N r1 hwg h3
    have hgg : GG (cpN s1.1 s1.2.1 0 0) (oS W) := GG.bg hM1 hwg
    have hC : RCm (Scrs1 sc 0) (rdT (oT W)).2.1 := x3
    have lo := run_loop hN (C := (rdT (oT W)).2.1) (by
      have hc12 := x3.1
      omega) v1 (cK N) (rD N) r' (rdT (oT W)).2.1.length N N 0 (Thls4 t (Scrs1 sc 0)) (Ms1 (Ms14 (Ms7 s1 0) 0) (cpN s1.1 s1.2.1 0 0)) (oS W) a b (by omega) (by omega) (by omega) hC z2 r1 hM1.1 w1 (by omega)
    have ec : (if (iB ((rdT (oT W)).1 && decide ((rdT (oT W)).2.2 = (oT W).length))) = 0 then some (3, 0, (Thls8 (Thls4 t ((Scrs1 sc 0))) sc.2.2.2.2.2), r) else xcall (fX5_setAside N t.2.2.1 t.1 r) fun q3 => fX12_runCommands_L55 N (cK N) N 0 ((Thls4 (Thls2 (Thls0 t q3.2.1) q3.1) ((Scrs1 sc 0)))) q3.2.2) = fX12_runCommands_L55 N (cK N) N (iI ((0 : Nat) : Int)) (Thls4 t (Scrs1 sc 0)) r' := by
      rw [g1, decide_eq_true g2, if_neg (by decide), k2, xcall_s]
      rfl
    have em : rK N cv s1 = fX13_runCommands_L130 N (rD N) N (iI ((rdT (oT W)).2.1.length : Int)) (iI ((0 : Nat) : Int)) (Ms1 (Ms14 (Ms7 s1 0) 0) (cpN s1.1 s1.2.1 0 0)) := by
      unfold rK rJ
      rw [y3.2.2, g1, if_pos (by decide), y3.1.1, y3.2.1, if_pos (by rw [i_le (by omega) (by omega) (by omega) (by omega)]; omega), xnz_of (by decide), if_pos rfl, m_begin hN, xcall_s, z1]
      rfl
    refine Exists.elim (show ∃ lc, lc = fX12_runCommands_L55 N (cK N) N (iI ((0 : Nat) : Int)) (Thls4 t (Scrs1 sc 0)) r' from ⟨_, rfl⟩) fun lc hlc => ?_
    refine Exists.elim (show ∃ lm, lm = fX13_runCommands_L130 N (rD N) N (iI ((rdT (oT W)).2.1.length : Int)) (iI ((0 : Nat) : Int)) (Ms1 (Ms14 (Ms7 s1 0) 0) (cpN s1.1 s1.2.1 0 0)) from ⟨_, rfl⟩) fun lm hlm => ?_
    rw [← hlc, ← hlm] at lo
    rw [← hlm] at em
    rw [← hlc] at ec
    rw [em]
    refine Exists.elim (show ∃ gc, gc = (if (iB ((rdT (oT W)).1 && decide ((rdT (oT W)).2.2 = (oT W).length))) = 0 then some (3, 0, (Thls8 (Thls4 t ((Scrs1 sc 0))) sc.2.2.2.2.2), r) else xcall (fX5_setAside N t.2.2.1 t.1 r) fun q3 => fX12_runCommands_L55 N (cK N) N 0 ((Thls4 (Thls2 (Thls0 t q3.2.1) q3.1) ((Scrs1 sc 0)))) q3.2.2) from ⟨_, rfl⟩) fun gc hgc => ?_
    rw [← hgc] at ec
    show ∃ q v v' t' r' s' W', (if (iB ((rdT (oT W)).1 && decide ((rdT (oT W)).2.2 = (oT W).length))) = 0 then some (3, 0, (Thls8 (Thls4 t ((Scrs1 sc 0))) sc.2.2.2.2.2), r) else xcall (fX5_setAside N t.2.2.1 t.1 r) fun q3 => fX12_runCommands_L55 N (cK N) N 0 ((Thls4 (Thls2 (Thls0 t q3.2.1) q3.1) ((Scrs1 sc 0)))) q3.2.2) = some (q, v, t', r') ∧ _
    rw [← hgc, ec]
    clear hgc ec em hlc hlm
    rcases lo with ⟨S', t', s', a', b', d1, d2, d3, d4, d5, d6, ⟨f1, f2, f3⟩, d8, d9, d10⟩ | ⟨k9, v, t', s', d1, d2, ⟨f1, f2, f3⟩, d4, d10⟩
    · obtain ⟨j1, j2, j3, j4, j5, j6, j7, j8, j9, j10, j11, -⟩ := d10
      obtain ⟨n1, n2, n3, ⟨n4, n5⟩, ⟨n6, n7⟩, n8, n9, ⟨n10, n11⟩⟩ := hM1
      have f2 : t'.2.2.1 = t.2.2.1 := f2
      have j1 : s'.2.1 = cpN s1.1 s1.2.1 0 0 := j1
      have j2 : s'.2.2.1 = s1.2.2.1 := j2
      have j3 : s'.2.2.2.1 = s1.2.2.2.1 := j3
      obtain ⟨his, e1, e2⟩ := c_keepAside N k3 (S := oS W) (fun f hf hlt => by rw [← k6 f hf hlt]; exact k4)
      obtain ⟨h', l1, l2⟩ := m_kept_ok hN (s := Ms12 s' (iI 0)) (H := oH W) (S := oS W) (by show GH s'.2.2.1 _; rw [j2]; exact n3) (fun S hS => (w2 S hS).1) hwg w4 (by show s'.2.2.2.1 = _; rw [j3]; exact n2) (by show GG s'.2.1 _; rw [j1]; exact hgg) rfl (iI ((rdT (oT W)).2.1.length : Int))
      refine ⟨0, iI ((rdT (oT W)).2.1.length : Int), iI ((rdT (oT W)).2.1.length : Int), Thls2 t' his, r', Ms3 (Ms2 (Ms12 s' (iI 0)) h') (iI ((pushH (oH W) (oS W)).length : Int)), (S', pushH (oH W) (oS W), oV W, [], oE W, oF W, oO W), ?_, ?_, rfl, .inl rfl, fun _ => rfl, ?_, ?_, ?_⟩
      · rw [d5]
        unfold cK
        rw [f3]
        show (if sc.2.2.2.2.1 ≤ _ then xcall (fX5_keepAside N t'.2.2.1) _ else _) = _
        rw [x3.1, if_pos (by rw [i_le (by omega) (by omega) (by omega) (by omega)]; omega), f2, e1, xcall_s]
      · rw [d8]
        unfold rD
        rw [m_done, xcall_s, l1, xcall_s]
      · show RBo t'.1 S' ∧ RV t'.2.2.2.2.2.2.2.1 t'.2.1 (oV W) ∧ RH his r' (pushH (oH W) (oS W)) ∧ RSc t'.2.2.2.2.1 [] ∧ (t'.2.2.2.2.2.2.1 = iI ((oO W).length : Int) ∧ AC t'.2.2.2.2.2.1 (oO W)) ∧ t'.2.2.2.2.2.2.2.2.1 = iI (oE W) ∧ t'.2.2.2.2.2.2.2.2.2 = iI (oF W)
        rw [f3, f1]
        exact ⟨d6, r2, e2, ⟨rfl, AC.nil _⟩, r5, r6, r7⟩
      · show GG s'.1 S' ∧ iI ((pushH (oH W) (oS W)).length : Int) = iI ((pushH (oH W) (oS W)).length : Int) ∧ GH h' (pushH (oH W) (oS W)) ∧ (s'.2.2.2.2.2.1 = iB (oV W).isSome ∧ ∀ S, oV W = some S → GG s'.2.2.2.2.1 S) ∧ (s'.2.2.2.2.2.2.2.1 = iI 0 ∧ AC s'.2.2.2.2.2.2.1 []) ∧ s'.2.2.2.2.2.2.2.2.1 = iI (oE W) ∧ s'.2.2.2.2.2.2.2.2.2.1 = iI (oF W) ∧ (s'.2.2.2.2.2.2.2.2.2.2.2.1 = iI ((oO W).length : Int) ∧ AC s'.2.2.2.2.2.2.2.2.2.2.1 (oO W))
        rw [j4, j5, j7, j8, j9, j10, j11]
        exact ⟨d9, rfl, l2, ⟨n4, n5⟩, ⟨rfl, AC.nil _⟩, n8, n9, n10, n11⟩
      · refine ⟨a', b', ?_, d4, fun S hS => ?_, fun S hS => (w3 S hS).more d2 d3, (pushH_len w4).1, ⟨Nat.zero_le _, fun c hc => absurd hc List.not_mem_nil⟩, w6, w7, w8⟩
        · show a' + b' + 0 ≤ _
          omega
        · rcases pushH_mem hS with h9 | h9
          · exact (w2 S h9).more d2 d3
          · rw [h9]; exact w1.more d2 d3
    · obtain ⟨j1, j2, j3, j4, j5, j6, j7, j8, j9, j10, j11, -⟩ := d10
      obtain ⟨n1, n2, n3, ⟨n4, n5⟩, ⟨n6, n7⟩, n8, n9, ⟨n10, n11⟩⟩ := hM1
      have f2 : t'.2.2.1 = t.2.2.1 := f2
      have j1 : s'.2.1 = cpN s1.1 s1.2.1 0 0 := j1
      obtain ⟨b9, e1, e2⟩ := c_bookCopy (b := t'.1) N k4 hwg
      have l1 := m_kept_no hN (s := Ms12 (Ms9 s' (iI (k9 : Int))) 2) (k := 2) (by omega) rfl v
      refine ⟨5, 0, iI 0, Thls9 (Thls2 (Thls0 t' b9) t.2.2.1) (iI (k9 : Int)), r', Ms0 (Ms12 (Ms9 s' (iI (k9 : Int))) 2) (cpN s'.2.1 s'.1 0 0), (oS W, oH W, oV W, [], oE W, (k9 : Int), oO W), ?_, ?_, rfl, .inr (by decide), fun h => absurd h (by decide), ?_, ?_, ?_⟩
      · rw [d2]
        unfold cK
        rw [f3]
        show (if sc.2.2.2.2.1 ≤ _ then _ else xcall (fX5_putBack N t'.2.2.1 t'.1 r') _) = _
        rw [x3.1, if_neg (by rw [i_le (by omega) (by omega) (by omega) (by omega)]; omega), f2]
        unfold fX5_putBack
        rw [k5, xcall_s, xnz_d k1, e1, xcall_s, xcall_s, uprow_self]
      · rw [d4, l1, xcall_s]
      · show RBo b9 (oS W) ∧ RV t'.2.2.2.2.2.2.2.1 t'.2.1 (oV W) ∧ RH t.2.2.1 r' (oH W) ∧ RSc t'.2.2.2.2.1 [] ∧ (t'.2.2.2.2.2.2.1 = iI ((oO W).length : Int) ∧ AC t'.2.2.2.2.2.1 (oO W)) ∧ t'.2.2.2.2.2.2.2.2.1 = iI (oE W) ∧ iI (k9 : Int) = iI (k9 : Int)
        rw [f3, f1]
        exact ⟨e2, r2, k3, ⟨rfl, AC.nil _⟩, r5, r6, rfl⟩
      · show GG (cpN s'.2.1 s'.1 0 0) (oS W) ∧ s'.2.2.2.1 = iI ((oH W).length : Int) ∧ GH s'.2.2.1 (oH W) ∧ (s'.2.2.2.2.2.1 = iB (oV W).isSome ∧ ∀ S, oV W = some S → GG s'.2.2.2.2.1 S) ∧ (s'.2.2.2.2.2.2.2.1 = iI 0 ∧ AC s'.2.2.2.2.2.2.1 []) ∧ s'.2.2.2.2.2.2.2.2.1 = iI (oE W) ∧ iI (k9 : Int) = iI (k9 : Int) ∧ (s'.2.2.2.2.2.2.2.2.2.2.2.1 = iI ((oO W).length : Int) ∧ AC s'.2.2.2.2.2.2.2.2.2.2.1 (oO W))
        rw [j1, j2, j3, j4, j5, j7, j8, j10, j11]
        refine ⟨?_, n2, n3, ⟨n4, n5⟩, ⟨rfl, AC.nil _⟩, n8, rfl, n10, n11⟩
        refine hgg.eq hwg fun k hk => ?_
        show cpN (cpN s1.1 s1.2.1 0 0) s'.1 0 0 k = _
        have e : 0 + (k - 0) = k := by omega
        unfold cpN
        rw [if_pos (by omega)]
        simp only [e]
      · refine ⟨a, b, by show a + b + 0 ≤ _; omega, w1, w2, w3, w4, ⟨Nat.zero_le _, fun c hc => absurd hc List.not_mem_nil⟩, w6, w7, ?_⟩
        show -1 ≤ (k9 : Int) ∧ (k9 : Int) ≤ 60
        omega
  · have hc : iB ((rdT (oT W)).1 && decide ((rdT (oT W)).2.2 = (oT W).length)) = 0 := by
      cases h : (rdT (oT W)).1 with
      | false => rfl
      | true => rw [decide_eq_false (fun h2 => hg ⟨h, h2⟩)]; rfl
    have em : rK N cv s1 = some (iI 0, Ms12 (Ms14 (Ms8 (Ms7 s1 0) (iI ((rdT (oT W)).2.2 : Int))) 1) 1) := by
      have ej : rJ N 1 cv s1 = some (iI 0, Ms12 (Ms14 (Ms8 (Ms7 s1 0) (iI ((rdT (oT W)).2.2 : Int))) 1) 1) := by
        unfold rJ
        rw [xnz_of (by decide), if_neg (by decide), m_fails, xcall_s, y3.2.1]
      unfold rK
      rw [y3.2.2]
      cases h : (rdT (oT W)).1 with
      | false => rw [if_neg (by decide)]; exact ej
      | true =>
        have h2 : (rdT (oT W)).2.2 ≠ (oT W).length := fun h2 => hg ⟨h, h2⟩
        rw [if_pos (by decide), y3.1.1, y3.2.1, if_neg (by rw [i_le (by omega) (by omega) (by omega) (by omega)]; omega)]
        exact ej
    obtain ⟨n1, n2, n3, ⟨n4, n5⟩, ⟨n6, n7⟩, n8, n9, ⟨n10, n11⟩⟩ := hM1
    refine ⟨3, 0, iI 0, Thls8 (Thls4 t (Scrs1 sc 0)) sc.2.2.2.2.2, r, Ms12 (Ms14 (Ms8 (Ms7 s1 0) (iI ((rdT (oT W)).2.2 : Int))) 1) 1, (oS W, oH W, oV W, [], ((rdT (oT W)).2.2 : Int), oF W, oO W), ?_, em, rfl, .inr (by decide), fun h => absurd h (by decide), ⟨r1, r2, r3, ⟨rfl, AC.nil _⟩, r5, x2.2.2, r7⟩, ⟨n1, n2, n3, ⟨n4, n5⟩, ⟨rfl, AC.nil _⟩, rfl, n9, n10, n11⟩, ?_⟩
    · rw [if_pos hc]
    · refine ⟨a, b, by show a + b + 0 ≤ _; omega, w1, w2, w3, w4, ⟨Nat.zero_le _, fun c hc => absurd hc List.not_mem_nil⟩, w6, ?_, w8⟩
      show -1 ≤ ((rdT (oT W)).2.2 : Int) ∧ ((rdT (oT W)).2.2 : Int) ≤ 60
      omega
end SRU
