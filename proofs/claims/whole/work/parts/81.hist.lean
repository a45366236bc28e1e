/-! ===== the whole state; what is kept for undo and restore ===== -/
abbrev SO : Type := SG × List SG × Option SG × List Int × Int × Int × List Int
abbrev oS (W : SO) : SG := W.1
abbrev oH (W : SO) : List SG := W.2.1
abbrev oV (W : SO) : Option SG := W.2.2.1
abbrev oT (W : SO) : List Int := W.2.2.2.1
abbrev oE (W : SO) : Int := W.2.2.2.2.1
abbrev oF (W : SO) : Int := W.2.2.2.2.2.1
abbrev oO (W : SO) : List Int := W.2.2.2.2.2.2
def AC (f : Nat → Int32) (L : List Int) : Prop := ∀ (i : Nat) (c : Int), L[i]? = some c → f i = iI c
/-- the rows of the history -/
def RH (h : HisS) (rows : Nat → BooS) (H : List SG) : Prop := H.length ≤ 8 ∧ ∃ f : Nat, f < 9 ∧ h.1 = iI (f : Int) ∧ h.2 = iI (H.length : Int) ∧ ∀ (i : Nat) (S : SG), H[i]? = some S → RBo (rows ((f + i) % 9)) S
def RV (z : Int32) (b : BooS) (V : Option SG) : Prop := z = iB V.isSome ∧ ∀ S, V = some S → RBo b S
def RSc (t : ScrS) (L : List Int) : Prop := t.2.1 = iI (L.length : Int) ∧ AC t.1 L
def RT (t : ThlS) (rows : Nat → BooS) (W : SO) : Prop := RBo t.1 (oS W) ∧ RV t.2.2.2.2.2.2.2.1 t.2.1 (oV W) ∧ RH t.2.2.1 rows (oH W) ∧ RSc t.2.2.2.2.1 (oT W) ∧ (t.2.2.2.2.2.2.1 = iI ((oO W).length : Int) ∧ AC t.2.2.2.2.2.1 (oO W)) ∧ t.2.2.2.2.2.2.2.2.1 = iI (oE W) ∧ t.2.2.2.2.2.2.2.2.2 = iI (oF W)
def GH (h : Nat → Int32) (H : List SG) : Prop := ∀ (i : Nat) (S : SG), H[i]? = some S → GG (fun k => h (i * 229 + k)) S
def RM (m : MS) (W : SO) : Prop := GG m.1 (oS W) ∧ m.2.2.2.1 = iI ((oH W).length : Int) ∧ GH m.2.2.1 (oH W) ∧ (m.2.2.2.2.2.1 = iB (oV W).isSome ∧ ∀ S, oV W = some S → GG m.2.2.2.2.1 S) ∧ (m.2.2.2.2.2.2.2.1 = iI ((oT W).length : Int) ∧ AC m.2.2.2.2.2.2.1 (oT W)) ∧ m.2.2.2.2.2.2.2.2.1 = iI (oE W) ∧ m.2.2.2.2.2.2.2.2.2.1 = iI (oF W) ∧ (m.2.2.2.2.2.2.2.2.2.2.2.1 = iI ((oO W).length : Int) ∧ AC m.2.2.2.2.2.2.2.2.2.2.1 (oO W))
def pushH (H : List SG) (S : SG) : List SG := if H.length = 8 then H.tail ++ [S] else H ++ [S]
theorem pushH_len {H : List SG} {S : SG} (h : H.length ≤ 8) : (pushH H S).length ≤ 8 ∧ 1 ≤ (pushH H S).length := by
  unfold pushH
  split
  · rw [List.length_append, List.length_tail]; simp only [List.length_cons, List.length_nil]; omega
  · rw [List.length_append]; simp only [List.length_cons, List.length_nil]; omega
theorem fMod_all : (List.range 18).all (fun a => decide (fJ9_floorMod_7cf53 0 (iI (a : Int)) (iI 9) = some (iI ((a % 9 : Nat) : Int)))) = true := by decide +kernel
theorem c_fMod (N : Nat) {a : Nat} (ha : a < 18) : fJ9_floorMod_7cf53 N (iI (a : Int)) (iI 9) = some (iI ((a % 9 : Nat) : Int)) := by
  have := List.all_eq_true.mp fMod_all a (List.mem_range.mpr ha)
  exact of_decide_eq_true this
section CH
variable {b b2 : BooS} {S : SG} {his : HisS} {rows : Nat → BooS} {H : List SG}
theorem c_bookCopy (N : Nat) (h : RBo b2 S) (w : WG S) : ∃ b', fX3_copyFrom N b b2 = some (b', b2) ∧ RBo b' S := by
  obtain ⟨f1, f2, f3, f4⟩ := w.fr
  obtain ⟨r1, r2, r3, r4, r5, r6, r7⟩ := h
  obtain ⟨a, a1, a2⟩ := c_accCopy (a := b.1) N r1 f1
  obtain ⟨j, j1, j2⟩ := c_jouCopy (j := b.2.1) N r2
  obtain ⟨p, p1, p2⟩ := c_proCopy (p := b.2.2.1) N r3 f2
  obtain ⟨l, l1, l2⟩ := c_warCopy (w := b.2.2.2.1) N r4 f3
  obtain ⟨e, e1, e2⟩ := c_bilCopy (b := b.2.2.2.2.1) N r5 f4
  refine ⟨(a, j, p, l, e, b2.2.2.2.2.2), ?_, a2, j2, p2, l2, e2, r6, r7⟩
  unfold fX3_copyFrom
  rw [a1, xcall_s, j1, xcall_s, p1, xcall_s, l1, xcall_s, e1, xcall_s]
theorem c_free (N : Nat) {f : Nat} (hf : f < 9) (h1 : his.1 = iI (f : Int)) (h2 : his.2 = iI (H.length : Int)) (hl : H.length ≤ 8) : fX5_free N his = some ((f + H.length) % 9) := by
  unfold fX5_free
  rw [h1, h2, i_add, show ((f : Int) + (H.length : Int)) = ((f + H.length : Nat) : Int) by omega, show (9 : Int32) = iI 9 from rfl, c_fMod N (by omega), xcall_s, xrd_n (by omega) (by omega)]
/-- the books are set aside in the free row -/
theorem c_setAside (N : Nat) (h : RBo b S) (w : WG S) (hH : RH his rows H) : ∃ rows' r, r < 9 ∧ fX5_setAside N his b rows = some (his, b, rows') ∧ RH his rows' H ∧ RBo (rows' r) S ∧ fX5_free N his = some r ∧ ∀ f : Nat, his.1 = iI (f : Int) → f < 9 → r = (f + H.length) % 9 := by
  obtain ⟨hl, f, hf, h1, h2, h3⟩ := hH
  have hfr := c_free N hf h1 h2 hl
  obtain ⟨b', e1, e2⟩ := c_bookCopy (b := rows ((f + H.length) % 9)) N h w
  refine ⟨uprow rows ((f + H.length) % 9) b', (f + H.length) % 9, by omega, ?_, ⟨hl, f, hf, h1, h2, fun i S' hi => ?_⟩, ?_, hfr, fun f' hf' hlt => ?_⟩
  · unfold fX5_setAside
    rw [hfr, xcall_s, xnz_d (by omega), e1, xcall_s]
  · have hi9 := lt_len hi
    have hne : (f + i) % 9 ≠ (f + H.length) % 9 := by omega
    unfold uprow
    rw [if_neg hne]
    exact h3 i S' hi
  · unfold uprow
    rw [if_pos rfl]
    exact e2
  · rw [h1, i_eq (by omega) (by omega) (by omega) (by omega)] at hf'
    have : f' = f := by omega
    rw [this]
theorem c_keepAside (N : Nat) (hH : RH his rows H) (hr : ∀ f : Nat, his.1 = iI (f : Int) → f < 9 → RBo (rows ((f + H.length) % 9)) S) : ∃ his', fX5_keepAside N his = some his' ∧ RH his' rows (pushH H S) := by
  obtain ⟨hl, f, hf, h1, h2, h3⟩ := hH
  have hrow := hr f h1 hf
  unfold fX5_keepAside
  rw [h2]
  simp (disch := omega) only [xlet, xjoin, xnz_b0, xnz_b1, xnz_b, xcall_s, i_lit, i_add, i_sub, i_mul, i_neg, i_le, i_lt, i_eq, l_cmp0, l_cmplt, l_cmpgt, l_cmple, l_cmpge, b_zero, b_one, decide_eq_false_iff_not, decide_eq_true_eq]
  by_cases hc : H.length = 8
  · rw [if_pos (by omega), h1, i_add, show ((f : Int) + 1) = ((f + 1 : Nat) : Int) by omega, c_fMod N (by omega), xcall_s]
    refine ⟨_, rfl, (pushH_len hl).1, (f + 1) % 9, by omega, rfl, ?_, fun i S' hi => ?_⟩
    · unfold pushH
      rw [if_pos hc, List.length_append, List.length_tail, hc]
      show his.2 = _
      rw [h2, hc]; rfl
    · unfold pushH at hi
      rw [if_pos hc] at hi
      have hi9 := lt_len hi
      rw [List.length_append, List.length_tail, hc] at hi9
      simp only [List.length_cons, List.length_nil] at hi9
      by_cases e : i < 7
      · rw [List.getElem?_append_left (by rw [List.length_tail]; omega), List.getElem?_tail] at hi
        have := h3 (i + 1) S' hi
        rw [show ((f + 1) % 9 + i) % 9 = (f + (i + 1)) % 9 by omega]
        exact this
      · have e : i = 7 := by omega
        subst e
        rw [List.getElem?_append_right (by rw [List.length_tail]; omega), List.length_tail, hc] at hi
        simp at hi
        subst hi
        rw [show ((f + 1) % 9 + 7) % 9 = (f + H.length) % 9 by omega]
        exact hrow
  · rw [if_neg (by omega)]
    refine ⟨_, rfl, (pushH_len hl).1, f, hf, h1, ?_, fun i S' hi => ?_⟩
    · unfold pushH
      rw [if_neg hc, List.length_append]
      rfl
    · unfold pushH at hi
      rw [if_neg hc] at hi
      have hi9 := lt_len hi
      rw [List.length_append] at hi9
      simp only [List.length_cons, List.length_nil] at hi9
      by_cases e : i < H.length
      · rw [List.getElem?_append_left e] at hi
        exact h3 i S' hi
      · have e : i = H.length := by omega
        subst e
        simp at hi
        subst hi
        exact hrow
end CH
/-! the reference's copies -/
def cpN (f g : Nat → Int32) (a b : Nat) : Nat → Int32 := fun k => if b ≤ k ∧ k < b + 229 then f (a + (k - b)) else g k
theorem m_copy {N : Nat} (hN : 2000 ≤ N) {n0 n1 a b : Nat} (f g : Nat → Int32) (h0 : a + 229 ≤ n0) (h1 : b + 229 ≤ n1) (hn0 : n0 ≤ 100000) (hn1 : n1 ≤ 100000) : fX13_copy N n0 n1 (iI (a : Int)) (iI (b : Int)) f g = some (f, cpN f g a b) := by
  unfold fX13_copy xjoin
  refine loopP (F := fun n (z : Nat → Int32) i => fX13_copy_L3 N n0 n1 _ n (iI (a : Int)) (iI (b : Int)) (iI (i : Int)) f z) (I := fun z i => z = fun k => if b ≤ k ∧ k < b + i then f (a + (k - b)) else g k) (m := 229) (P := fun r => r = _) ?_ ?_ N 0 g (by omega) (by omega) ?_
  · intro n z i hi hz
    refine .inr ⟨upd z (b + i) (f (a + i)), ?_, ?_⟩
    · rw [fX13_copy_L3]
      simp (disch := omega) only [xlet, xjoin, xnz_b0, xnz_b1, xnz_b, xcall_s, i_lit, i_add, i_sub, i_mul, i_neg, i_le, i_lt, i_eq, l_cmp0, l_cmplt, l_cmpgt, l_cmple, l_cmpge, b_zero, b_one, decide_eq_false_iff_not, decide_eq_true_eq, i_succ]
      rw [if_neg (by omega), xrd_nn (by omega) (by omega), xrd_nn (by omega) (by omega)]
    · rw [hz]
      funext k
      unfold upd
      dsimp only
      by_cases e : k = b + i
      · subst e
        rw [if_pos rfl, if_pos (by omega), show b + i - b = i by omega]
      · rw [if_neg e]
        by_cases e2 : b ≤ k ∧ k < b + i
        · rw [if_pos e2, if_pos (by omega)]
        · rw [if_neg e2, if_neg (by omega)]
  · intro n z hz
    rw [fX13_copy_L3]
    simp (disch := omega) only [i_lit, i_add, i_sub, i_mul, i_neg, i_le, i_lt, i_eq, l_cmp0, l_cmplt, l_cmpgt, l_cmple, l_cmpge, b_zero, b_one, decide_eq_false_iff_not, decide_eq_true_eq]
    rw [if_pos (by omega), hz]
    rfl
  · funext k
    rw [if_neg (by omega)]
theorem GG.eq {g g' : Nat → Int32} {S : SG} (h : GG g S) (w : WG S) (he : ∀ k, k < 229 → g' k = g k) : GG g' S := by
  obtain ⟨f1, f2, f3, f4⟩ := w.fr
  obtain ⟨r1, r2, r3, r4, r5, r6, r7⟩ := h
  exact ⟨r1.of f1 fun k hk => he k (by omega), r2.of fun k hk => he k (by omega), r3.of f2 fun k hk => he k (by omega), r4.of f3 fun k hk => he k (by omega), r5.of f4 fun k hk => he k (by omega), by rw [he 0 (by omega)]; exact r6, by rw [he 8 (by omega)]; exact r7⟩
theorem m_begin {N : Nat} (hN : 2000 ≤ N) (s : MS) : fX13_begin N s = some (Ms1 s (cpN s.1 s.2.1 0 0)) := by
  unfold fX13_begin
  rw [show (0 : Int32) = iI ((0 : Nat) : Int) from rfl, m_copy hN _ _ (by decide) (by decide) (by decide) (by decide), xcall_s]
/-- kept: back to what was before -/
theorem m_kept_no {N : Nat} (hN : 2000 ≤ N) {s : MS} {k : Int} (hk : 1 ≤ k ∧ k ≤ 9) (ht : s.2.2.2.2.2.2.2.2.2.2.2.2.1 = iI k) (v : Int32) : fX13_kept N v s = some (iI 0, Ms0 s (cpN s.2.1 s.1 0 0)) := by
  unfold fX13_kept
  rw [ht, if_neg (by rw [i_lit, i_eq (by omega) (by omega) (by omega) (by omega)]; omega)]
  rw [show fX13_copy N 229 229 0 0 s.2.1 s.1 = some (s.2.1, cpN s.2.1 s.1 0 0) from m_copy hN (a := 0) (b := 0) _ _ (by decide) (by decide) (by decide) (by decide), xcall_s]
  rfl
theorem m_keptShift {N : Nat} (hN : 2000 ≤ N) (K : Int32 → MS → Option (Int32 × MS)) (v : Int32) (s : MS) : fX13_kept_L33 N K N v (iI 0) s = K v (Ms2 s (fun k => if k < 1603 then s.2.2.1 (k + 229) else s.2.2.1 k)) := by
  refine loopP (F := fun n (z : Nat → Int32) i => fX13_kept_L33 N K n v (iI (i : Int)) (Ms2 s z)) (I := fun z i => z = fun k => if k < i then s.2.2.1 (k + 229) else s.2.2.1 k) (m := 1603) (P := fun r => r = _) ?_ ?_ N 0 s.2.2.1 (by omega) (by omega) ?_
  · intro n z i hi hz
    refine .inr ⟨upd z i (z (i + 229)), ?_, ?_⟩
    · rw [fX13_kept_L33]
      simp (disch := omega) only [xlet, xjoin, xnz_b0, xnz_b1, xnz_b, xcall_s, i_lit, i_add, i_sub, i_mul, i_neg, i_le, i_lt, i_eq, l_cmp0, l_cmplt, l_cmpgt, l_cmple, l_cmpge, b_zero, b_one, decide_eq_false_iff_not, decide_eq_true_eq, i_succ]
      rw [if_neg (by omega), xrd_at (k := i + 229) (by congr 1) (by omega) (by omega), xrd_n (by omega) (by omega)]
    · rw [hz]
      funext k
      unfold upd
      dsimp only
      by_cases e : k = i
      · subst e
        rw [if_pos rfl, if_neg (by omega), if_pos (by omega)]
      · rw [if_neg e]
        by_cases e2 : k < i
        · rw [if_pos e2, if_pos (by omega)]
        · rw [if_neg e2, if_neg (by omega)]
  · intro n z hz
    rw [fX13_kept_L33]
    simp (disch := omega) only [i_lit, i_add, i_sub, i_mul, i_neg, i_le, i_lt, i_eq, l_cmp0, l_cmplt, l_cmpgt, l_cmple, l_cmpge, b_zero, b_one, decide_eq_false_iff_not, decide_eq_true_eq]
    rw [if_pos (by omega), hz]
  · funext k
    rw [if_neg (by omega)]
def keptB (N : Nat) (v1_2 : Int32) (s0_2 : MS) : Option (Int32 × MS) :=
        xcall (fX13_copy N 229 1832 0 (s0_2.2.2.2.1 * 229) s0_2.2.1 s0_2.2.2.1) fun q3 =>
        xlet (s0_2.2.2.2.1 + 1) fun x4 =>
        some (v1_2, (Ms3 (Ms2 (Ms1 s0_2 q3.1) q3.2) x4))
theorem kept_B (N : Nat) (a1 : Int32) (s0 : MS) : fX13_kept N a1 s0 = if s0.2.2.2.2.2.2.2.2.2.2.2.2.1 = 0 then (if s0.2.2.2.1 = 8 then fX13_kept_L33 N (fun v1 s1 => xlet (s1.2.2.2.1 - 1) fun x7 => keptB N v1 (Ms3 s1 x7)) N a1 0 s0 else keptB N a1 s0) else xcall (fX13_copy N 229 229 0 0 s0.2.1 s0.1) fun q14 => some (0, (Ms1 (Ms0 s0 q14.2) q14.1)) := rfl
theorem keptB_at {N : Nat} (hN : 2000 ≤ N) {s : MS} {n : Nat} (hn : n ≤ 7) (hc : s.2.2.2.1 = iI (n : Int)) (v : Int32) : keptB N v s = some (v, Ms3 (Ms2 s (cpN s.2.1 s.2.2.1 0 (n * 229))) (iI ((n + 1 : Nat) : Int))) := by
  unfold keptB
  have e1 : iI (n : Int) * 229 = iI ((n * 229 : Nat) : Int) := by rw [i_lit, i_mul]; congr 1
  have ec := m_copy hN (n0 := 229) (n1 := 1832) (a := 0) (b := n * 229) s.2.1 s.2.2.1 (by omega) (by omega) (by omega) (by omega)
  rw [hc, e1, show (0 : Int32) = iI ((0 : Nat) : Int) from rfl, ec, xcall_s]
  unfold xlet
  rw [i_lit, i_add, i_succ]
theorem put_hist {s2 h0 : Nat → Int32} {S : SG} (hb : GG s2 S) (w : WG S) {L : List SG} {n : Nat} (hn : L.length = n) (hG : GH h0 L) (hW : ∀ S' ∈ L, WG S') : GH (cpN s2 h0 0 (n * 229)) (L ++ [S]) := by
  subst hn
  intro i S' hi
  have hi9 := lt_len hi
  rw [List.length_append] at hi9
  simp only [List.length_cons, List.length_nil] at hi9
  by_cases e : i < L.length
  · rw [List.getElem?_append_left e] at hi
    refine (hG i S' hi).eq (hW S' (List.mem_of_getElem? hi)) fun k hk => ?_
    unfold cpN
    rw [if_neg (by omega)]
  · have e : i = L.length := by omega
    subst e
    simp at hi
    subst hi
    refine hb.eq w fun k hk => ?_
    unfold cpN
    rw [if_pos (by omega), show 0 + (L.length * 229 + k - L.length * 229) = k by omega]
/-- kept: what was before goes to the history -/
theorem m_kept_ok {N : Nat} (hN : 2000 ≤ N) {s : MS} {H : List SG} {S : SG} (hH : GH s.2.2.1 H) (hw : ∀ S' ∈ H, WG S') (w : WG S) (hl : H.length ≤ 8) (hc : s.2.2.2.1 = iI (H.length : Int)) (hb : GG s.2.1 S) (ht : s.2.2.2.2.2.2.2.2.2.2.2.2.1 = iI 0) (v : Int32) : ∃ h' : Nat → Int32, fX13_kept N v s = some (v, Ms3 (Ms2 s h') (iI ((pushH H S).length : Int))) ∧ GH h' (pushH H S) := by
  rw [kept_B, ht, if_pos (show iI 0 = (0 : Int32) from rfl), hc]
  by_cases h8 : H.length = 8
  · have e7 : H.tail.length = 7 := by rw [List.length_tail]; omega
    have hsh : GH (fun k => if k < 1603 then s.2.2.1 (k + 229) else s.2.2.1 k) H.tail := by
      intro i S' hi
      have hi9 := lt_len hi
      rw [List.length_tail] at hi9
      rw [List.getElem?_tail] at hi
      refine (hH (i + 1) S' hi).eq (hw S' (List.mem_of_getElem? hi)) fun k hk => ?_
      show (if i * 229 + k < 1603 then s.2.2.1 (i * 229 + k + 229) else s.2.2.1 (i * 229 + k)) = s.2.2.1 ((i + 1) * 229 + k)
      rw [if_pos (by omega), show i * 229 + k + 229 = (i + 1) * 229 + k by omega]
    have hp := put_hist hb w e7 hsh (fun S' h => hw S' (List.mem_of_mem_tail h))
    have e9 : (pushH H S).length = 8 := by unfold pushH; rw [if_pos h8, List.length_append, e7]; rfl
    have e8 : iI (H.length : Int) - 1 = iI ((7 : Nat) : Int) := by rw [h8, i_lit, i_sub]; rfl
    have hk := keptB_at hN (s := Ms3 (Ms2 s (fun k => if k < 1603 then s.2.2.1 (k + 229) else s.2.2.1 k)) (iI ((7 : Nat) : Int))) (n := 7) (Nat.le_refl _) rfl v
    refine ⟨_, ?_, by unfold pushH; rw [if_pos h8]; exact hp⟩
    rw [if_pos (by rw [h8]; rfl), show (0 : Int32) = iI 0 from rfl, m_keptShift hN]
    unfold xlet
    show keptB N v (Ms3 (Ms2 s (fun k => if k < 1603 then s.2.2.1 (k + 229) else s.2.2.1 k)) (s.2.2.2.1 - 1)) = _
    rw [hc, e8, hk, e9]
  · rw [if_neg (by rw [i_lit, i_eq (by omega) (by omega) (by omega) (by omega)]; omega)]
    have hp := put_hist hb w (n := H.length) rfl hH hw
    have e9 : (pushH H S).length = H.length + 1 := by unfold pushH; rw [if_neg h8, List.length_append]; rfl
    refine ⟨_, ?_, by unfold pushH; rw [if_neg h8]; exact hp⟩
    rw [keptB_at hN (by omega) hc, e9]
