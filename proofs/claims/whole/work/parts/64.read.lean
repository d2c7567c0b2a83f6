-- bits of the truths; what a claim's steps do
set_option maxRecDepth 100000
set_option maxHeartbeats 4000000
theorem l_tn {n : Nat} (h : n < 2 ^ 64) : (Int64.ofNat n).toBitVec.toNat = n := Nat.mod_eq_of_lt h
theorem l_shl1 {t : Nat} (h : t < 2 ^ 60) : Int64.ofNat t <<< ((1 : Int32).toInt64 &&& 63) = Int64.ofNat (2 * t) := by
  apply Int64.toBitVec_inj.mp
  apply BitVec.eq_of_toNat_eq
  show ((Int64.ofNat t).toBitVec <<< (((1 : Int32).toInt64 &&& 63).toBitVec.smod 64).toNat).toNat = _
  rw [show (((1 : Int32).toInt64 &&& 63).toBitVec.smod 64).toNat = 1 by decide, BitVec.toNat_shiftLeft, Nat.shiftLeft_eq, l_tn (by omega), l_tn (by omega)]
  omega
theorem l_or (x y : Nat) : Int64.ofNat x ||| Int64.ofNat y = Int64.ofNat (x ||| y) := by
  apply Int64.toBitVec_inj.mp
  show BitVec.ofNat 64 x ||| BitVec.ofNat 64 y = BitVec.ofNat 64 (x ||| y)
  exact BitVec.ofNat_or.symm
theorem l_and (x y : Nat) : Int64.ofNat x &&& Int64.ofNat y = Int64.ofNat (x &&& y) := by
  apply Int64.toBitVec_inj.mp
  show BitVec.ofNat 64 x &&& BitVec.ofNat 64 y = BitVec.ofNat 64 (x &&& y)
  exact BitVec.ofNat_and.symm
theorem l_xor (x y : Nat) : Int64.ofNat x ^^^ Int64.ofNat y = Int64.ofNat (x ^^^ y) := by
  apply Int64.toBitVec_inj.mp
  show BitVec.ofNat 64 x ^^^ BitVec.ofNat 64 y = BitVec.ofNat 64 (x ^^^ y)
  exact BitVec.ofNat_xor.symm
theorem l_ushr1 {x : Nat} (h : x < 2 ^ 64) : ((Int64.ofNat x).toUInt64 >>> ((1 : Int32).toInt64.toUInt64 &&& Int64.toUInt64 63)).toInt64 = Int64.ofNat (x / 2) := by
  apply Int64.toBitVec_inj.mp
  apply BitVec.eq_of_toNat_eq
  have e : ((Int64.ofNat x).toUInt64 >>> ((1 : Int32).toInt64.toUInt64 &&& Int64.toUInt64 63)).toInt64.toBitVec = (Int64.ofNat x).toBitVec >>> 1 := by
    rw [← show (((1 : Int32).toInt64.toUInt64 &&& Int64.toUInt64 63).toBitVec % 64).toNat = 1 by decide]
    exact UInt64.toBitVec_shiftRight _ _
  rw [e, BitVec.toNat_ushiftRight, Nat.shiftRight_eq_div_pow, l_tn h, l_tn (by omega)]
theorem or_2 {t b : Nat} (hb : b < 2) : 2 * t ||| b = 2 * t + b := by
  have := Nat.shiftLeft_add_eq_or_of_lt (i := 1) (b := b) (by omega) t
  rw [Nat.shiftLeft_eq, Nat.pow_one, Nat.mul_comm] at this
  exact this.symm
theorem or_11 (t : Nat) : (2 * t + 1) ||| 1 = 2 * t + 1 := by
  have e1 : ((2 * t + 1) ||| 1) / 2 = t := by rw [Nat.or_div_two, show 1 / 2 = 0 by decide, Nat.or_zero]; omega
  have e2 : ((2 * t + 1) ||| 1) % 2 = 1 := Nat.or_mod_two_eq_one.mpr (Or.inr rfl)
  omega
theorem or_ones {a n : Nat} (h : a < 2 ^ n) : a ||| (2 ^ n - 1) = 2 ^ n - 1 := by
  apply Nat.eq_of_testBit_eq
  intro i
  rw [Nat.testBit_or, Nat.testBit_two_pow_sub_one]
  by_cases q : i < n
  · simp [q]
  · have : a.testBit i = false := Nat.testBit_lt_two_pow (Nat.lt_of_lt_of_le h (Nat.pow_le_pow_right (by decide) (by omega)))
    simp [q, this]
def b2n (b : Bool) : Nat := if b then 1 else 0
theorem b2n_lt (b : Bool) : b2n b < 2 := by cases b <;> decide
theorem and_low {x y : Nat} (hx : x < 2 ^ 60) (hy : y < 2 ^ 60) : x &&& (y ||| (2 ^ 64 - 2)) = if y % 2 = 1 then x else x - x % 2 := by
  have e1 : (x &&& (y ||| (2 ^ 64 - 2))) / 2 = x / 2 := by
    rw [Nat.and_div_two, Nat.or_div_two, show (2 ^ 64 - 2) / 2 = 2 ^ 63 - 1 by decide, or_ones (by omega), Nat.and_two_pow_sub_one_eq_mod, Nat.mod_eq_of_lt (by omega)]
  have e2 : (x &&& (y ||| (2 ^ 64 - 2))) % 2 = 1 ↔ x % 2 = 1 ∧ y % 2 = 1 := by
    rw [Nat.and_mod_two_eq_one, Nat.or_mod_two_eq_one]
    constructor
    · rintro ⟨h1, h2 | h2⟩
      · exact ⟨h1, h2⟩
      · exact absurd h2 (by decide)
    · rintro ⟨h1, h2⟩; exact ⟨h1, Or.inl h2⟩
  split
  · next q => omega
  · next q => omega
theorem xor_1 (x : Nat) : x ^^^ 1 = if x % 2 = 1 then x - 1 else x + 1 := by
  have e1 : (x ^^^ 1) / 2 = x / 2 := by rw [Nat.xor_div_two, show 1 / 2 = 0 by decide, Nat.xor_zero]
  have e2 : (x ^^^ 1) % 2 = 1 ↔ ¬ (x % 2 = 1 ↔ 1 % 2 = 1) := Nat.xor_mod_two_eq_one
  split
  · next q => omega
  · next q => omega
theorem j_cmp {t : Nat} {p : Prop} [Decidable p] (h : t < 2 ^ 50) : (Int64.ofNat t <<< ((1 : Int32).toInt64 &&& 63)) ||| (bI p).toInt64 = Int64.ofNat (2 * t + (if p then 1 else 0)) := by
  have e : (bI p).toInt64 = Int64.ofNat (if p then 1 else 0) := by by_cases q : p <;> simp only [bI, q, if_true, if_false] <;> rfl
  rw [l_shl1 (by omega), e, l_or, or_2 (by split <;> omega)]
theorem j_not {t : Nat} {b : Bool} {l r : Int32} : judL (Int64.ofNat (2 * t + b2n b)) 11 l r = Int64.ofNat (2 * t + b2n (!b)) := by
  show Int64.ofNat _ ^^^ Int64.ofNat 1 = _
  rw [l_xor, xor_1]
  cases b
  · rw [show b2n false = 0 from rfl, if_neg (by omega)]; rfl
  · rw [show b2n true = 1 from rfl, if_pos (by omega)]; rfl
theorem j_and {t : Nat} {a b : Bool} {l r : Int32} (h : t < 2 ^ 50) : judL (Int64.ofNat (2 * (2 * t + b2n a) + b2n b)) 12 l r = Int64.ofNat (2 * t + b2n (a && b)) := by
  have ha := b2n_lt a
  have hb := b2n_lt b
  show ((Int64.ofNat _).toUInt64 >>> _).toInt64 &&& (Int64.ofNat _ ||| (-2)) = _
  rw [l_ushr1 (by omega), show (-2 : Int64) = Int64.ofNat (2 ^ 64 - 2) by decide, l_or, l_and, and_low (by omega) (by omega)]
  congr 1
  cases a <;> cases b <;> simp only [b2n] <;> simp <;> omega
theorem j_or {t : Nat} {a b : Bool} {l r : Int32} (h : t < 2 ^ 50) : judL (Int64.ofNat (2 * (2 * t + b2n a) + b2n b)) 13 l r = Int64.ofNat (2 * t + b2n (a || b)) := by
  have ha := b2n_lt a
  have hb := b2n_lt b
  show ((Int64.ofNat _).toUInt64 >>> _).toInt64 ||| (Int64.ofNat _ &&& Int64.ofNat 1) = _
  rw [l_ushr1 (by omega), l_and, Nat.and_one_is_mod, l_or]
  congr 1
  have e1 : (2 * (2 * t + b2n a) + b2n b) / 2 = 2 * t + b2n a := by omega
  have e2 : (2 * (2 * t + b2n a) + b2n b) % 2 = b2n b := by omega
  rw [e1, e2]
  cases a <;> cases b <;> simp only [b2n, if_true, if_false, Bool.or_self, Bool.or_false, Bool.or_true, Bool.false_eq_true]
  · exact Nat.or_zero _
  · exact or_2 (by omega)
  · exact Nat.or_zero _
  · exact or_11 t
theorem j_when {t : Nat} {b : Bool} (h : t < 2 ^ 50) : lg_cmp (Int64.ofNat (2 * t + b2n b) &&& Int64.ofNat 1) (Int64.ofNat 0) = 0 ↔ b = false := by
  rw [l_and, Nat.and_one_is_mod, show (2 * t + b2n b) % 2 = b2n b by have := b2n_lt b; omega]
  cases b <;> decide
