/-! ===== the whole state; what is kept for undo and restore ===== -/
abbrev SO : Type := SG × List SG × Option SG × List Int × Int × Int × List Int
abbrev oS (W : SO) : SG := W.1
abbrev oH (W : SO) : List SG := W.2.1
abbrev oV (W : SO) : Option SG := W.2.2.1
abbrev oT (W : SO) : List Int := W.2.2.2.1
abbrev oE (W : SO) : Int := W.2.2.2.2.1
abbrev oF (W : SO) : Int := W.2.2.2.2.2.1
abbrev oO (W : SO) : List Int := W.2.2.2.2.2.2
def AC (f : Nat → Int32) (L : List Int) : Prop := ∀ (i : Nat) (c : Int), L[i]? = some c → f i = iI c
def RH (h : HisS) (rows : Nat → BooS) (H : List SG) : Prop := H.length ≤ 8 ∧ ∃ f : Nat, f < 9 ∧ h.1 = iI (f : Int) ∧ h.2 = iI (H.length : Int) ∧ ∀ (i : Nat) (S : SG), H[i]? = some S → RBo (rows ((f + i) % 9)) S
def RV (z : Int32) (b : BooS) (V : Option SG) : Prop := z = iB V.isSome ∧ ∀ S, V = some S → RBo b S
def RSc (t : ScrS) (L : List Int) : Prop := t.2.1 = iI (L.length : Int) ∧ AC t.1 L
def RT (t : ThlS) (rows : Nat → BooS) (W : SO) : Prop := RBo t.1 (oS W) ∧ RV t.2.2.2.2.2.2.2.1 t.2.1 (oV W) ∧ RH t.2.2.1 rows (oH W) ∧ RSc t.2.2.2.2.1 (oT W) ∧ (t.2.2.2.2.2.2.1 = iI ((oO W).length : Int) ∧ AC t.2.2.2.2.2.1 (oO W)) ∧ t.2.2.2.2.2.2.2.2.1 = iI (oE W) ∧ t.2.2.2.2.2.2.2.2.2 = iI (oF W)
def GH (h : Nat → Int32) (H : List SG) : Prop := ∀ (i : Nat) (S : SG), H[i]? = some S → GG (fun k => h (i * 229 + k)) S
def RM (m : MS) (W : SO) : Prop := GG m.1 (oS W) ∧ m.2.2.2.1 = iI ((oH W).length : Int) ∧ GH m.2.2.1 (oH W) ∧ (m.2.2.2.2.2.1 = iB (oV W).isSome ∧ ∀ S, oV W = some S → GG m.2.2.2.2.1 S) ∧ (m.2.2.2.2.2.2.2.1 = iI ((oT W).length : Int) ∧ AC m.2.2.2.2.2.2.1 (oT W)) ∧ m.2.2.2.2.2.2.2.2.1 = iI (oE W) ∧ m.2.2.2.2.2.2.2.2.2.1 = iI (oF W) ∧ (m.2.2.2.2.2.2.2.2.2.2.2.1 = iI ((oO W).length : Int) ∧ AC m.2.2.2.2.2.2.2.2.2.2.1 (oO W))
def pushH (H : List SG) (S : SG) : List SG := if H.length = 8 then H.tail ++ [S] else H ++ [S]
theorem pushH_len {H : List SG} {S : SG} (h : H.length ≤ 8) : (pushH H S).length ≤ 8 ∧ 1 ≤ (pushH H S).length := by
  unfold pushH
  split
  · rw [List.length_append, List.length_tail]; simp only [List.length_cons, List.length_nil]; omega
  · rw [List.length_append]; simp only [List.length_cons, List.length_nil]; omega
theorem fMod_all : (List.range 18).all (fun a => decide (fJ9_floorMod_7cf53 0 (iI (a : Int)) (iI 9) = some (iI ((a % 9 : Nat) : Int)))) = true := by decide +kernel
theorem c_fMod (N : Nat) {a : Nat} (ha : a < 18) : fJ9_floorMod_7cf53 N (iI (a : Int)) (iI 9) = some (iI ((a % 9 : Nat) : Int)) := by
  have := List.all_eq_true.mp fMod_all a (List.mem_range.mpr ha)
  exact of_decide_eq_true this
section CH
variable {b b2 : BooS} {S : SG} {his : HisS} {rows : Nat → BooS} {H : List SG}
theorem c_bookCopy (N : Nat) (h : RBo b2 S) (w : WG S) : ∃ b', fX3_copyFrom N b b2 = some (b', b2) ∧ RBo b' S := by
  obtain ⟨f1, f2, f3, f4⟩ := w.fr
  obtain ⟨r1, r2, r3, r4, r5, r6, r7⟩ := h
  obtain ⟨a, a1, a2⟩ := c_accCopy (a := b.1) N r1 f1
  obtain ⟨j, j1, j2⟩ := c_jouCopy (j := b.2.1) N r2
  obtain ⟨p, p1, p2⟩ := c_proCopy (p := b.2.2.1) N r3 f2
  obtain ⟨l, l1, l2⟩ := c_warCopy (w := b.2.2.2.1) N r4 f3
  obtain ⟨e, e1, e2⟩ := c_bilCopy (b := b.2.2.2.2.1) N r5 f4
  refine ⟨(a, j, p, l, e, b2.2.2.2.2.2), ?_, a2, j2, p2, l2, e2, r6, r7⟩
  unfold fX3_copyFrom
  rw [a1, xcall_s, j1, xcall_s, p1, xcall_s, l1, xcall_s, e1, xcall_s]
theorem c_free (N : Nat) {f : Nat} (hf : f < 9) (h1 : his.1 = iI (f : Int)) (h2 : his.2 = iI (H.length : Int)) (hl : H.length ≤ 8) : fX5_free N his = some ((f + H.length) % 9) := by
  unfold fX5_free
  rw [h1, h2, i_add, show ((f : Int) + (H.length : Int)) = ((f + H.length : Nat) : Int) by omega, show (9 : Int32) = iI 9 from rfl, c_fMod N (by omega), xcall_s, xrd_n (by omega) (by omega)]
theorem c_setAside (N : Nat) (h : RBo b S) (w : WG S) (hH : RH his rows H) : ∃ rows' r, r < 9 ∧ fX5_setAside N his b rows = some (his, b, rows') ∧ RH his rows' H ∧ RBo (rows' r) S ∧ fX5_free N his = some r ∧ ∀ f : Nat, his.1 = iI (f : Int) → f < 9 → r = (f + H.length) % 9 := by
  obtain ⟨hl, f, hf, h1, h2, h3⟩ := hH
  have hfr := c_free N hf h1 h2 hl
  obtain ⟨b', e1, e2⟩ := c_bookCopy (b := rows ((f + H.length) % 9)) N h w
  refine ⟨uprow rows ((f + H.length) % 9) b', (f + H.length) % 9, by omega, ?_, ⟨hl, f, hf, h1, h2, fun i S' hi => ?_⟩, ?_, hfr, fun f' hf' hlt => ?_⟩
  · unfold fX5_setAside
    rw [hfr, xcall_s, xnz_d (by omega), e1, xcall_s]
  · have hi9 := lt_len hi
    have hne : (f + i) % 9 ≠ (f + H.length) % 9 := by omega
    unfold uprow
    rw [if_neg hne]
    exact h3 i S' hi
  · unfold uprow
    rw [if_pos rfl]
    exact e2
  · rw [h1, i_eq (by omega) (by omega) (by omega) (by omega)] at hf'
    have : f' = f := by omega
    rw [this]
theorem c_keepAside (N : Nat) (hH : RH his rows H) (hr : ∀ f : Nat, his.1 = iI (f : Int) → f < 9 → RBo (rows ((f + H.length) % 9)) S) : ∃ his', fX5_keepAside N his = some his' ∧ RH his' rows (pushH H S) := by
  obtain ⟨hl, f, hf, h1, h2, h3⟩ := hH
  have hrow := hr f h1 hf
  unfold fX5_keepAside
  rw [h2]
  simp (disch := omega) only [xlet, xjoin, xnz_b0, xnz_b1, xnz_b, xcall_s, i_lit, i_add, i_sub, i_mul, i_neg, i_le, i_lt, i_eq, l_cmp0, l_cmplt, l_cmpgt, l_cmple, l_cmpge, b_zero, b_one, decide_eq_false_iff_not, decide_eq_true_eq]
  by_cases hc : H.length = 8
  · rw [if_pos (by omega), h1, i_add, show ((f : Int) + 1) = ((f + 1 : Nat) : Int) by omega, c_fMod N (by omega), xcall_s]
    refine ⟨_, rfl, (pushH_len hl).1, (f + 1) % 9, by omega, rfl, ?_, fun i S' hi => ?_⟩
    · unfold pushH
      rw [if_pos hc, List.length_append, List.length_tail, hc]
      show his.2 = _
      rw [h2, hc]; rfl
    · unfold pushH at hi
      rw [if_pos hc] at hi
      have hi9 := lt_len hi
      rw [List.length_append, List.length_tail, hc] at hi9
      simp only [List.length_cons, List.length_nil] at hi9
      by_cases e : i < 7
      · rw [List.getElem?_append_left (by rw [List.length_tail]; omega), List.getElem?_tail] at hi
        have := h3 (i + 1) S' hi
        rw [show ((f + 1) % 9 + i) % 9 = (f + (i + 1)) % 9 by omega]
        exact this
      · have e : i = 7 := by omega
        subst e
        rw [List.getElem?_append_right (by rw [List.length_tail]; omega), List.length_tail, hc] at hi
        simp at hi
        subst hi
        rw [show ((f + 1) % 9 + 7) % 9 = (f + H.length) % 9 by omega]
        exact hrow
  · rw [if_neg (by omega)]
    refine ⟨_, rfl, (pushH_len hl).1, f, hf, h1, ?_, fun i S' hi => ?_⟩
    · unfold pushH
      rw [if_neg hc, List.length_append]
      rfl
    · unfold pushH at hi
      rw [if_neg hc] at hi
      have hi9 := lt_len hi
      rw [List.length_append] at hi9
      simp only [List.length_cons, List.length_nil] at hi9
      by_cases e : i < H.length
      · rw [List.getElem?_append_left e] at hi
        exact h3 i S' hi
      · have e : i = H.length := by omega
        subst e
        simp at hi
        subst hi
        exact hrow
end CH
/-! the reference's copies -/
def cpN (f g : Nat → Int32) (a b : Nat) : Nat → Int32 := fun k => if b ≤ k ∧ k < b + 229 then f (a + (k - b)) else g k
theorem GG.eq {g g' : Nat → Int32} {S : SG} (h : GG g S) (w : WG S) (he : ∀ k, k < 229 → g' k = g k) : GG g' S := by
  obtain ⟨f1, f2, f3, f4⟩ := w.fr
  obtain ⟨r1, r2, r3, r4, r5, r6, r7⟩ := h
  exact ⟨r1.of f1 fun k hk => he k (by omega), r2.of fun k hk => he k (by omega), r3.of f2 fun k hk => he k (by omega), r4.of f3 fun k hk => he k (by omega), r5.of f4 fun k hk => he k (by omega), by rw [he 0 (by omega)]; exact r6, by rw [he 8 (by omega)]; exact r7⟩
theorem put_hist {s2 h0 : Nat → Int32} {S : SG} (hb : GG s2 S) (w : WG S) {L : List SG} {n : Nat} (hn : L.length = n) (hG : GH h0 L) (hW : ∀ S' ∈ L, WG S') : GH (cpN s2 h0 0 (n * 229)) (L ++ [S]) := by
  subst hn
  intro i S' hi
  have hi9 := lt_len hi
  rw [List.length_append] at hi9
  simp only [List.length_cons, List.length_nil] at hi9
  by_cases e : i < L.length
  · rw [List.getElem?_append_left e] at hi
    refine (hG i S' hi).eq (hW S' (List.mem_of_getElem? hi)) fun k hk => ?_
    unfold cpN
    rw [if_neg (by omega)]
  · have e : i = L.length := by omega
    subst e
    simp at hi
    subst hi
    refine hb.eq w fun k hk => ?_
    unfold cpN
    rw [if_pos (by omega), show 0 + (L.length * 229 + k - L.length * 229) = k by omega]
