/-! ===== build: a new object, moved by the script ===== -/
abbrev RBd : Room := { frames := 12, cells := 1000, slots := 9000, locals := 260 }
abbrev shI (a b : Int32) : Int32 := a >>> (b &&& 31)
theorem and15_all : ∀ x : Int32, ∃ j : Nat, j < 16 ∧ x &&& 15 = iI (j : Int) := by
  intro x
  refine ⟨(x.toBitVec &&& 15#32).toNat, ?_, ?_⟩
  · rw [BitVec.toNat_and]
    exact Nat.lt_of_le_of_lt Nat.and_le_right (by decide)
  · show x &&& 15 = Int32.ofInt ((x.toBitVec &&& 15#32).toNat : Int)
    rw [Int32.ofInt_eq_ofNat]
    refine Int32.toBitVec.inj ?_
    refine BitVec.eq_of_toNat_eq ?_
    show (x.toBitVec &&& 15#32).toNat = (BitVec.ofNat 32 (x.toBitVec &&& 15#32).toNat).toNat
    rw [BitVec.toNat_ofNat]
    exact (Nat.mod_eq_of_lt (x.toBitVec &&& 15#32).isLt).symm
theorem and3_all : ∀ x : Int32, ∃ j : Nat, j < 4 ∧ x &&& 3 = iI (j : Int) := by
  intro x
  refine ⟨(x.toBitVec &&& 3#32).toNat, ?_, ?_⟩
  · rw [BitVec.toNat_and]
    exact Nat.lt_of_le_of_lt Nat.and_le_right (by decide)
  · show x &&& 3 = Int32.ofInt ((x.toBitVec &&& 3#32).toNat : Int)
    rw [Int32.ofInt_eq_ofNat]
    refine Int32.toBitVec.inj ?_
    refine BitVec.eq_of_toNat_eq ?_
    show (x.toBitVec &&& 3#32).toNat = (BitVec.ofNat 32 (x.toBitVec &&& 3#32).toNat).toNat
    rw [BitVec.toNat_ofNat]
    exact (Nat.mod_eq_of_lt (x.toBitVec &&& 3#32).isLt).symm
theorem and63_all : ∀ x : Int32, ∃ j : Nat, j < 64 ∧ x &&& 63 = iI (j : Int) := by
  intro x
  refine ⟨(x.toBitVec &&& 63#32).toNat, ?_, ?_⟩
  · rw [BitVec.toNat_and]
    exact Nat.lt_of_le_of_lt Nat.and_le_right (by decide)
  · show x &&& 63 = Int32.ofInt ((x.toBitVec &&& 63#32).toNat : Int)
    rw [Int32.ofInt_eq_ofNat]
    refine Int32.toBitVec.inj ?_
    refine BitVec.eq_of_toNat_eq ?_
    show (x.toBitVec &&& 63#32).toNat = (BitVec.ofNat 32 (x.toBitVec &&& 63#32).toNat).toNat
    rw [BitVec.toNat_ofNat]
    exact (Nat.mod_eq_of_lt (x.toBitVec &&& 63#32).isLt).symm
/-- a remainder lies below its divisor -/
theorem rem_in {x : Int32} {y : Nat} (hx : ∃ q : Nat, q < 64 ∧ x = iI (q : Int)) (hy : y ≤ 20) (h0 : 0 < y) : 0 ≤ (x - x / iI (y : Int) * iI (y : Int)).toInt ∧ (x - x / iI (y : Int) * iI (y : Int)).toInt ≤ (y : Int) - 1 := by
  obtain ⟨q, h1, rfl⟩ := hx
  have e1 : iI (q : Int) / iI (y : Int) = iI ((q / y : Nat) : Int) := by
    rw [i_div (by omega) (by omega) (by omega) (by omega), Int.tdiv_eq_ediv_of_nonneg (by omega)]
    rfl
  rw [e1, i_mul, i_sub]
  have h2 := Nat.div_add_mod q y
  have h3 := Nat.mod_lt q h0
  have h4 : ((q / y : Nat) : Int) * (y : Int) = ((y * (q / y) : Nat) : Int) := by rw [Int.natCast_mul, Int.mul_comm]
  rw [h4, i_int (by omega) (by omega)]
  omega
def bM0 (cv ac nn : Int32) (Wo : SO) : SO := (lO Wo (gBuy (oS Wo) ((1 + (nn - nn / 15 * 15)) : Int32).toInt ((1 + ((shI cv 25) &&& 15)) : Int32).toInt)).2.2
def bM1 (cv ac nn : Int32) (Wo : SO) : SO := (lO Wo (gBuy (oS Wo) ((1 + (nn - nn / 15 * 15)) : Int32).toInt ((1 + ((shI cv 25) &&& 15)) : Int32).toInt)).2.2
def bM2 (cv ac nn : Int32) (Wo : SO) : SO := (lO Wo (gBuy (oS Wo) ((1 + (nn - nn / 15 * 15)) : Int32).toInt ((1 + ((shI cv 25) &&& 15)) : Int32).toInt)).2.2
def bM3 (cv ac nn : Int32) (Wo : SO) : SO := (lO Wo (gSell (oS Wo) ((1 + (nn - nn / 9 * 9)) : Int32).toInt ((1 + ((shI cv 25) &&& 31)) : Int32).toInt)).2.2
def bM4 (cv ac nn : Int32) (Wo : SO) : SO := (lO Wo (gSell (oS Wo) ((1 + (nn - nn / 9 * 9)) : Int32).toInt ((1 + ((shI cv 25) &&& 31)) : Int32).toInt)).2.2
def bM5 (cv ac nn : Int32) (Wo : SO) : SO := (lO Wo (gBill (oS Wo) ((10 * (1 + (nn - nn / 9 * 9))) : Int32).toInt)).2.2
def bM6 (cv ac nn : Int32) (Wo : SO) : SO := (lO Wo (gBill (oS Wo) ((10 * (1 + (nn - nn / 9 * 9))) : Int32).toInt)).2.2
def bM7 (cv ac nn : Int32) (Wo : SO) : SO := (lO Wo (gBill (oS Wo) ((10 * (1 + (nn - nn / 9 * 9))) : Int32).toInt)).2.2
def bM8 (cv ac nn : Int32) (Wo : SO) : SO := (lO Wo (gPay (oS Wo) ((10 * (1 + (nn - nn / 20 * 20))) : Int32).toInt)).2.2
def bM9 (cv ac nn : Int32) (Wo : SO) : SO := (lO Wo (gPay (oS Wo) ((1 + nn) : Int32).toInt)).2.2
def bM10 (cv ac nn : Int32) (Wo : SO) : SO := if jK (gJ (oS Wo)) = 0 then Wo else (lO Wo (gRev (oS Wo) ((iI ((jN (gJ (oS Wo)) : Int) - (jK (gJ (oS Wo)) : Int) + ((nn - nn / (iI (jK (gJ (oS Wo)) : Int)) * (iI (jK (gJ (oS Wo)) : Int))) : Int32).toInt)) : Int32).toInt)).2.2
def bM11 (cv ac nn : Int32) (Wo : SO) : SO := (oCur Wo).2.2
def bM12 (cv ac nn : Int32) (Wo : SO) : SO := (lO Wo (gPrompt (oS Wo) ((((shI cv 2) &&& 7) - ((shI cv 2) &&& 7) / ac * ac) : Int32).toInt ((((shI cv 5) &&& 7) - ((shI cv 5) &&& 7) / ac * ac) : Int32).toInt ((1 + nn) : Int32).toInt ((1 + ((shI cv 25) &&& 3)) : Int32).toInt ((1 + ((shI cv 27) &&& 3)) : Int32).toInt)).2.2
def bM13 (cv ac nn : Int32) (Wo : SO) : SO := (lO Wo (gPrompt (oS Wo) ((((shI cv 2) &&& 7) - ((shI cv 2) &&& 7) / ac * ac) : Int32).toInt ((((shI cv 5) &&& 7) - ((shI cv 5) &&& 7) / ac * ac) : Int32).toInt ((1 + nn) : Int32).toInt ((1 + ((shI cv 25) &&& 3)) : Int32).toInt ((1 + ((shI cv 27) &&& 3)) : Int32).toInt)).2.2
def bM14 (cv ac nn : Int32) (Wo : SO) : SO := (lO Wo (gCancel (oS Wo) ((nn &&& 3) : Int32).toInt)).2.2
def bM15 (cv ac nn : Int32) (Wo : SO) : SO := Wo
