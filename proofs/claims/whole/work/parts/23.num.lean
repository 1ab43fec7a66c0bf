/-! NUMBERS AND CELLS for running -/
def rI (n : Int) : Prop := -2147483648 ≤ n ∧ n < 2147483648
def rJ (n : Int) : Prop := -9223372036854775808 ≤ n ∧ n < 9223372036854775808
theorem I_add (a b : Int) : I a + I b = I (a + b) := (Int32.ofInt_add a b).symm
theorem I_sub (a b : Int) : I a - I b = I (a - b) := (Int32.ofInt_sub a b).symm
theorem I_mul (a b : Int) : I a * I b = I (a * b) := (Int32.ofInt_mul a b).symm
theorem I_neg (a : Int) : - I a = I (- a) := (Int32.ofInt_neg a).symm
theorem J_add (a b : Int) : J a + J b = J (a + b) := (Int64.ofInt_add a b).symm
theorem J_sub (a b : Int) : J a - J b = J (a - b) := (Int64.ofInt_sub a b).symm
theorem J_mul (a b : Int) : J a * J b = J (a * b) := (Int64.ofInt_mul a b).symm
theorem I_toInt {a : Int} (h : -2147483648 ≤ a) (h2 : a < 2147483648) : (I a).toInt = a := Int32.toInt_ofInt_of_le h h2
theorem J_toInt {a : Int} (h : -9223372036854775808 ≤ a) (h2 : a < 9223372036854775808) : (J a).toInt = a := Int64.toInt_ofInt_of_le h h2
theorem I_lt {a b : Int} (h : rI a) (h2 : rI b) : (I a < I b) ↔ a < b := by
  rw [Int32.lt_iff_toInt_lt, I_toInt h.1 h.2, I_toInt h2.1 h2.2]
theorem I_le {a b : Int} (h : rI a) (h2 : rI b) : (I a ≤ I b) ↔ a ≤ b := by
  rw [Int32.le_iff_toInt_le, I_toInt h.1 h.2, I_toInt h2.1 h2.2]
theorem I_eq {a b : Int} (h : rI a) (h2 : rI b) : (I a = I b) ↔ a = b := by
  rw [← Int32.toInt_inj, I_toInt h.1 h.2, I_toInt h2.1 h2.2]
theorem J_lt {a b : Int} (h : rJ a) (h2 : rJ b) : (J a < J b) ↔ a < b := by
  rw [Int64.lt_iff_toInt_lt, J_toInt h.1 h.2, J_toInt h2.1 h2.2]
theorem J_eq {a b : Int} (h : rJ a) (h2 : rJ b) : (J a = J b) ↔ a = b := by
  rw [← Int64.toInt_inj, J_toInt h.1 h.2, J_toInt h2.1 h2.2]
theorem I_zero : (0 : Int32) = I 0 := by decide
theorem I_one : (1 : Int32) = I 1 := by decide
theorem I_clamp {a : Int} (h : rI a) : (I a).toNatClampNeg = a.toNat := by
  unfold Int32.toNatClampNeg
  rw [I_toInt h.1 h.2]
theorem I_ofNat (n : Nat) : Int32.ofNat n = I n := by
  unfold I
  rw [Int32.ofInt_eq_ofNat]
theorem J_ofNat (n : Nat) : Int64.ofNat n = J n := by
  unfold J
  rw [Int64.ofInt_eq_ofNat]
theorem I_toJ {a : Int} (h : rI a) : (I a).toInt64 = J a := by
  rw [← Int64.toInt_inj, Int32.toInt_toInt64, I_toInt h.1 h.2, J_toInt (by have := h.1; omega) (by have := h.2; omega)]
theorem J_toI (a : Int) : (J a).toInt32 = I a := by
  unfold I J
  exact Int64.toInt32_ofInt
theorem I_div {a b : Int} (h : rI a) (h2 : rI b) (h3 : rI (a.tdiv b)) : I a / I b = I (a.tdiv b) := by
  rw [← Int32.toInt_inj, Int32.toInt_div, I_toInt h.1 h.2, I_toInt h2.1 h2.2, I_toInt h3.1 h3.2]
  exact Int.bmod_eq_of_le (by have := h3.1; omega) (by have := h3.2; omega)
theorem I_bv (a : Nat) : (I a).toBitVec = BitVec.ofNat 32 a := by
  unfold I; rw [Int32.toBitVec_ofInt, BitVec.ofInt_natCast]
theorem J_bv (a : Nat) : (J a).toBitVec = BitVec.ofNat 64 a := by
  unfold J; rw [Int64.toBitVec_ofInt, BitVec.ofInt_natCast]
theorem I_and (a b : Nat) : I a &&& I b = I ((a &&& b : Nat) : Int) := by
  apply Int32.toBitVec_inj.mp
  rw [Int32.toBitVec_and, I_bv, I_bv, I_bv]
  apply BitVec.eq_of_toNat_eq
  simp [BitVec.toNat_and, BitVec.toNat_ofNat, Nat.and_mod_two_pow]
theorem I_or (a b : Nat) : I a ||| I b = I ((a ||| b : Nat) : Int) := by
  apply Int32.toBitVec_inj.mp
  rw [Int32.toBitVec_or, I_bv, I_bv, I_bv]
  apply BitVec.eq_of_toNat_eq
  simp [BitVec.toNat_or, BitVec.toNat_ofNat, Nat.or_mod_two_pow]
theorem J_and (a b : Nat) : J a &&& J b = J ((a &&& b : Nat) : Int) := by
  apply Int64.toBitVec_inj.mp
  rw [Int64.toBitVec_and, J_bv, J_bv, J_bv]
  apply BitVec.eq_of_toNat_eq
  simp [BitVec.toNat_and, BitVec.toNat_ofNat, Nat.and_mod_two_pow]
theorem J_or (a b : Nat) : J a ||| J b = J ((a ||| b : Nat) : Int) := by
  apply Int64.toBitVec_inj.mp
  rw [Int64.toBitVec_or, J_bv, J_bv, J_bv]
  apply BitVec.eq_of_toNat_eq
  simp [BitVec.toNat_or, BitVec.toNat_ofNat, Nat.or_mod_two_pow]
theorem lg64 (k : Nat) (hk : k < 64) : (I k).toInt64 &&& 63 = J (k : Int) := by
  rw [I_toJ ⟨by omega, by omega⟩, show (63 : Int64) = J ((63 : Nat) : Int) by decide, J_and]
  congr 2
  exact_mod_cast (Nat.and_two_pow_sub_one_eq_mod k 6).trans (Nat.mod_eq_of_lt hk)
theorem smod64 : ∀ k : Nat, k < 64 → (BitVec.ofNat 64 k).smod 64 = BitVec.ofNat 64 k := by decide
theorem smod32 : ∀ k : Nat, k < 32 → (BitVec.ofNat 32 k).smod 32 = BitVec.ofNat 32 k := by decide
theorem J_shl (a k : Nat) (hk : k < 64) : J a <<< ((I k).toInt64 &&& 63) = J ((a * 2 ^ k : Nat) : Int) := by
  rw [lg64 k hk]
  apply Int64.toBitVec_inj.mp
  rw [Int64.toBitVec_shiftLeft, J_bv, J_bv, J_bv]
  rw [smod64 k hk]
  apply BitVec.eq_of_toNat_eq
  simp only [BitVec.shiftLeft_eq', BitVec.toNat_shiftLeft, BitVec.toNat_ofNat, Nat.shiftLeft_eq]
  rw [Nat.mod_eq_of_lt (show k < 2 ^ 64 by omega), Nat.mod_mul_mod]
theorem J_shr (a k : Nat) (ha : a < 2 ^ 63) (hk : k < 64) : J a >>> ((I k).toInt64 &&& 63) = J ((a / 2 ^ k : Nat) : Int) := by
  rw [lg64 k hk]
  apply Int64.toBitVec_inj.mp
  rw [Int64.toBitVec_shiftRight, J_bv, J_bv, J_bv]
  rw [smod64 k hk]
  apply BitVec.eq_of_toNat_eq
  rw [BitVec.sshiftRight_eq']
  rw [BitVec.sshiftRight_eq_of_msb_false]
  · simp only [BitVec.toNat_ushiftRight, BitVec.toNat_ofNat, Nat.shiftRight_eq_div_pow]
    rw [Nat.mod_eq_of_lt (show k < 2 ^ 64 by omega), Nat.mod_eq_of_lt (show a < 2 ^ 64 by omega)]
    exact (Nat.mod_eq_of_lt (Nat.lt_of_le_of_lt (Nat.div_le_self _ _) (by omega))).symm
  · rw [BitVec.msb_eq_false_iff_two_mul_lt, BitVec.toNat_ofNat, Nat.mod_eq_of_lt (by omega)]
    omega
theorem J_ushr (a k : Nat) (ha : a < 2 ^ 64) (hk : k < 64) : ((J a).toUInt64 >>> ((I k).toInt64.toUInt64 &&& Int64.toUInt64 63)).toInt64 = J ((a / 2 ^ k : Nat) : Int) := by
  have e : (I k).toInt64.toUInt64 &&& Int64.toUInt64 63 = ((I k).toInt64 &&& 63).toUInt64 := rfl
  rw [e, lg64 k hk]
  apply Int64.toBitVec_inj.mp
  show ((J a).toUInt64 >>> (J k).toUInt64).toBitVec = _
  rw [UInt64.toBitVec_shiftRight]
  show (J a).toBitVec >>> ((J k).toBitVec % 64) = _
  rw [J_bv, J_bv, J_bv]
  apply BitVec.eq_of_toNat_eq
  simp only [BitVec.ushiftRight_eq', BitVec.toNat_ushiftRight, BitVec.toNat_umod, BitVec.toNat_ofNat, Nat.shiftRight_eq_div_pow]
  rw [Nat.mod_eq_of_lt (show k < 2 ^ 64 by omega), Nat.mod_eq_of_lt ha]
  rw [show (BitVec.toNat (64 : BitVec 64)) = 64 from rfl, Nat.mod_eq_of_lt hk]
  exact (Nat.mod_eq_of_lt (Nat.lt_of_le_of_lt (Nat.div_le_self _ _) ha)).symm
theorem lg32 (k : Nat) (hk : k < 32) : I k &&& 31 = I (k : Int) := by
  rw [show (31 : Int32) = I ((31 : Nat) : Int) by decide, I_and]
  congr 2
  exact_mod_cast (Nat.and_two_pow_sub_one_eq_mod k 5).trans (Nat.mod_eq_of_lt hk)
theorem I_shl (a k : Nat) (hk : k < 32) : I a <<< (I k &&& 31) = I ((a * 2 ^ k : Nat) : Int) := by
  rw [lg32 k hk]
  apply Int32.toBitVec_inj.mp
  rw [Int32.toBitVec_shiftLeft, I_bv, I_bv, I_bv]
  rw [smod32 k hk]
  apply BitVec.eq_of_toNat_eq
  simp only [BitVec.shiftLeft_eq', BitVec.toNat_shiftLeft, BitVec.toNat_ofNat, Nat.shiftLeft_eq]
  rw [Nat.mod_eq_of_lt (show k < 2 ^ 32 by omega), Nat.mod_mul_mod]
theorem I_shr (a k : Nat) (ha : a < 2 ^ 31) (hk : k < 32) : I a >>> (I k &&& 31) = I ((a / 2 ^ k : Nat) : Int) := by
  rw [lg32 k hk]
  apply Int32.toBitVec_inj.mp
  rw [Int32.toBitVec_shiftRight, I_bv, I_bv, I_bv]
  rw [smod32 k hk]
  apply BitVec.eq_of_toNat_eq
  rw [BitVec.sshiftRight_eq']
  rw [BitVec.sshiftRight_eq_of_msb_false]
  · simp only [BitVec.toNat_ushiftRight, BitVec.toNat_ofNat, Nat.shiftRight_eq_div_pow]
    rw [Nat.mod_eq_of_lt (show k < 2 ^ 32 by omega), Nat.mod_eq_of_lt (show a < 2 ^ 32 by omega)]
    exact (Nat.mod_eq_of_lt (Nat.lt_of_le_of_lt (Nat.div_le_self _ _) (by omega))).symm
  · rw [BitVec.msb_eq_false_iff_two_mul_lt, BitVec.toNat_ofNat, Nat.mod_eq_of_lt (by omega)]
    omega
theorem I_ushr (a k : Nat) (ha : a < 2 ^ 32) (hk : k < 32) : ((I a).toUInt32 >>> ((I k).toUInt32 &&& Int32.toUInt32 31)).toInt32 = I ((a / 2 ^ k : Nat) : Int) := by
  have e : (I k).toUInt32 &&& Int32.toUInt32 31 = (I k &&& 31).toUInt32 := rfl
  rw [e, lg32 k hk]
  apply Int32.toBitVec_inj.mp
  show ((I a).toUInt32 >>> (I k).toUInt32).toBitVec = _
  rw [UInt32.toBitVec_shiftRight]
  show (I a).toBitVec >>> ((I k).toBitVec % 32) = _
  rw [I_bv, I_bv, I_bv]
  apply BitVec.eq_of_toNat_eq
  simp only [BitVec.ushiftRight_eq', BitVec.toNat_ushiftRight, BitVec.toNat_umod, BitVec.toNat_ofNat, Nat.shiftRight_eq_div_pow]
  rw [Nat.mod_eq_of_lt (show k < 2 ^ 32 by omega), Nat.mod_eq_of_lt ha]
  rw [show (BitVec.toNat (32 : BitVec 32)) = 32 from rfl, Nat.mod_eq_of_lt hk]
  exact (Nat.mod_eq_of_lt (Nat.lt_of_le_of_lt (Nat.div_le_self _ _) ha)).symm

section ZC
variable {a b : Int}
theorem zc1_eq (h1 : -2147483648 ≤ a) (h2 : a < 2147483648) : zc1 .eq (I a) = decide (a = 0) := by
  show decide (I a = 0) = _
  rw [I_zero, decide_eq_decide, I_eq ⟨h1, h2⟩ ⟨by decide, by decide⟩]
theorem zc1_ne (h1 : -2147483648 ≤ a) (h2 : a < 2147483648) : zc1 .ne (I a) = decide (¬ a = 0) := by
  show decide (¬ I a = 0) = _
  rw [I_zero, decide_eq_decide, I_eq ⟨h1, h2⟩ ⟨by decide, by decide⟩]
theorem zc1_lt (h1 : -2147483648 ≤ a) (h2 : a < 2147483648) : zc1 .lt (I a) = decide (a < 0) := by
  show decide (I a < 0) = _
  rw [I_zero, decide_eq_decide, I_lt ⟨h1, h2⟩ ⟨by decide, by decide⟩]
theorem zc1_ge (h1 : -2147483648 ≤ a) (h2 : a < 2147483648) : zc1 .ge (I a) = decide (0 ≤ a) := by
  show decide (0 ≤ I a) = _
  rw [I_zero, decide_eq_decide, I_le ⟨by decide, by decide⟩ ⟨h1, h2⟩]
theorem zc1_gt (h1 : -2147483648 ≤ a) (h2 : a < 2147483648) : zc1 .gt (I a) = decide (0 < a) := by
  show decide (0 < I a) = _
  rw [I_zero, decide_eq_decide, I_lt ⟨by decide, by decide⟩ ⟨h1, h2⟩]
theorem zc1_le (h1 : -2147483648 ≤ a) (h2 : a < 2147483648) : zc1 .le (I a) = decide (a ≤ 0) := by
  show decide (I a ≤ 0) = _
  rw [I_zero, decide_eq_decide, I_le ⟨h1, h2⟩ ⟨by decide, by decide⟩]
theorem zc2_eq (h1 : -2147483648 ≤ a) (h2 : a < 2147483648) (h3 : -2147483648 ≤ b) (h4 : b < 2147483648) : zc2 .eq (I a) (I b) = decide (a = b) := by
  show decide (I a = I b) = _
  rw [decide_eq_decide, I_eq ⟨h1, h2⟩ ⟨h3, h4⟩]
theorem zc2_ne (h1 : -2147483648 ≤ a) (h2 : a < 2147483648) (h3 : -2147483648 ≤ b) (h4 : b < 2147483648) : zc2 .ne (I a) (I b) = decide (¬ a = b) := by
  show decide (¬ I a = I b) = _
  rw [decide_eq_decide, I_eq ⟨h1, h2⟩ ⟨h3, h4⟩]
theorem zc2_lt (h1 : -2147483648 ≤ a) (h2 : a < 2147483648) (h3 : -2147483648 ≤ b) (h4 : b < 2147483648) : zc2 .lt (I a) (I b) = decide (a < b) := by
  show decide (I a < I b) = _
  rw [decide_eq_decide, I_lt ⟨h1, h2⟩ ⟨h3, h4⟩]
theorem zc2_ge (h1 : -2147483648 ≤ a) (h2 : a < 2147483648) (h3 : -2147483648 ≤ b) (h4 : b < 2147483648) : zc2 .ge (I a) (I b) = decide (b ≤ a) := by
  show decide (I b ≤ I a) = _
  rw [decide_eq_decide, I_le ⟨h3, h4⟩ ⟨h1, h2⟩]
theorem zc2_gt (h1 : -2147483648 ≤ a) (h2 : a < 2147483648) (h3 : -2147483648 ≤ b) (h4 : b < 2147483648) : zc2 .gt (I a) (I b) = decide (b < a) := by
  show decide (I b < I a) = _
  rw [decide_eq_decide, I_lt ⟨h3, h4⟩ ⟨h1, h2⟩]
theorem zc2_le (h1 : -2147483648 ≤ a) (h2 : a < 2147483648) (h3 : -2147483648 ≤ b) (h4 : b < 2147483648) : zc2 .le (I a) (I b) = decide (a ≤ b) := by
  show decide (I a ≤ I b) = _
  rw [decide_eq_decide, I_le ⟨h1, h2⟩ ⟨h3, h4⟩]
theorem lg_I (h1 : -9223372036854775808 ≤ a) (h2 : a < 9223372036854775808) (h3 : -9223372036854775808 ≤ b) (h4 : b < 9223372036854775808) : lg_cmp (J a) (J b) = I (if b < a then 1 else if a = b then 0 else -1) := by
  unfold lg_cmp
  by_cases h : b < a
  · rw [if_pos h, if_pos ((J_lt ⟨h3, h4⟩ ⟨h1, h2⟩).mpr h)]; decide
  · rw [if_neg h, if_neg (fun z => h ((J_lt ⟨h3, h4⟩ ⟨h1, h2⟩).mp z))]
    by_cases h5 : a = b
    · rw [if_pos h5, if_pos (by rw [h5])]; decide
    · rw [if_neg h5, if_neg (fun z => h5 ((J_eq ⟨h1, h2⟩ ⟨h3, h4⟩).mp z))]; decide
theorem lc_eq (h1 : -9223372036854775808 ≤ a) (h2 : a < 9223372036854775808) (h3 : -9223372036854775808 ≤ b) (h4 : b < 9223372036854775808) : zc1 .eq (lg_cmp (J a) (J b)) = decide (a = b) := by
  rw [lg_I h1 h2 h3 h4]
  by_cases h : b < a
  · rw [if_pos h, decide_eq_false (by omega)]; decide
  · by_cases h5 : a = b
    · rw [if_neg h, if_pos h5, decide_eq_true h5]; decide
    · rw [if_neg h, if_neg h5, decide_eq_false h5]; decide
theorem lc_ne (h1 : -9223372036854775808 ≤ a) (h2 : a < 9223372036854775808) (h3 : -9223372036854775808 ≤ b) (h4 : b < 9223372036854775808) : zc1 .ne (lg_cmp (J a) (J b)) = decide (¬ a = b) := by
  rw [lg_I h1 h2 h3 h4]
  by_cases h : b < a
  · rw [if_pos h, decide_eq_true (by omega)]; decide
  · by_cases h5 : a = b
    · rw [if_neg h, if_pos h5, decide_eq_false (by omega)]; decide
    · rw [if_neg h, if_neg h5, decide_eq_true h5]; decide
theorem lc_ge (h1 : -9223372036854775808 ≤ a) (h2 : a < 9223372036854775808) (h3 : -9223372036854775808 ≤ b) (h4 : b < 9223372036854775808) : zc1 .ge (lg_cmp (J a) (J b)) = decide (b ≤ a) := by
  rw [lg_I h1 h2 h3 h4]
  by_cases h : b < a
  · rw [if_pos h, decide_eq_true (by omega)]; decide
  · by_cases h5 : a = b
    · rw [if_neg h, if_pos h5, decide_eq_true (by omega)]; decide
    · rw [if_neg h, if_neg h5, decide_eq_false (by omega)]; decide
theorem lc_le (h1 : -9223372036854775808 ≤ a) (h2 : a < 9223372036854775808) (h3 : -9223372036854775808 ≤ b) (h4 : b < 9223372036854775808) : zc1 .le (lg_cmp (J a) (J b)) = decide (a ≤ b) := by
  rw [lg_I h1 h2 h3 h4]
  by_cases h : b < a
  · rw [if_pos h, decide_eq_false (by omega)]; decide
  · by_cases h5 : a = b
    · rw [if_neg h, if_pos h5, decide_eq_true (by omega)]; decide
    · rw [if_neg h, if_neg h5, decide_eq_true (by omega)]; decide
theorem lc_gt (h1 : -9223372036854775808 ≤ a) (h2 : a < 9223372036854775808) (h3 : -9223372036854775808 ≤ b) (h4 : b < 9223372036854775808) : zc1 .gt (lg_cmp (J a) (J b)) = decide (b < a) := by
  rw [lg_I h1 h2 h3 h4]
  by_cases h : b < a
  · rw [if_pos h, decide_eq_true h]; decide
  · by_cases h5 : a = b
    · rw [if_neg h, if_pos h5, decide_eq_false h]; decide
    · rw [if_neg h, if_neg h5, decide_eq_false h]; decide
theorem lc_lt (h1 : -9223372036854775808 ≤ a) (h2 : a < 9223372036854775808) (h3 : -9223372036854775808 ≤ b) (h4 : b < 9223372036854775808) : zc1 .lt (lg_cmp (J a) (J b)) = decide (a < b) := by
  rw [lg_I h1 h2 h3 h4]
  by_cases h : b < a
  · rw [if_pos h, decide_eq_false (by omega)]; decide
  · by_cases h5 : a = b
    · rw [if_neg h, if_pos h5, decide_eq_false (by omega)]; decide
    · rw [if_neg h, if_neg h5, decide_eq_true (by omega)]; decide
theorem zib_I {n : Nat} (h1 : -2147483648 ≤ a) (h2 : a < 2147483648) : zib (I a) n = decide (0 ≤ a ∧ a < n) := by
  unfold zib
  rw [I_clamp ⟨h1, h2⟩, I_zero, ← Bool.decide_and, decide_eq_decide]
  rw [I_lt ⟨h1, h2⟩ ⟨by decide, by decide⟩]
  omega
theorem I_cl (h1 : -2147483648 ≤ a) (h2 : a < 2147483648) : (I a).toNatClampNeg = a.toNat := I_clamp ⟨h1, h2⟩
theorem I_J (h1 : -2147483648 ≤ a) (h2 : a < 2147483648) : (I a).toInt64 = J a := I_toJ ⟨h1, h2⟩
theorem I_ne2 : ¬ (I 2 = 0) := by decide
end ZC
/-! cells -/
def zst {α : Type} (a : Nat → α) (j : Nat) (x : α) : Nat → α := fun k => if k = j then x else a k
theorem zst_same {α : Type} {a : Nat → α} {j : Nat} {x : α} : zst a j x j = x := if_pos rfl
theorem zst_ne {α : Type} {a : Nat → α} {j k : Nat} {x : α} (h : k ≠ j) : zst a j x k = a k := if_neg h
def kO (c : Nat) (fs : List Value) : zC := .inr (c, fs)
def kA (n : Nat) (a : Nat → Int) : zC := .inl (0, (n, .inl (fun k => I (a k))))
def kB (n : Nat) (a : Nat → Bool) : zC := .inl (2, (n, .inl (fun k => I (if a k = true then 1 else 0))))
def kC (n : Nat) (a : Nat → Int) : zC := .inl (3, (n, .inl (fun k => I (a k))))
def kL (n : Nat) (a : Nat → Int) : zC := .inl (1, (n, .inr (.inl (fun k => J (a k)))))
def kD (n : Nat) (a : Nat → UInt64) : zC := .inl (4, (n, .inr (.inr (.inr (.inl a)))))
def kS (n : Nat) (a : Nat → Int32) : zC := .inl (8, (n, .inl a))
def kR (t n : Nat) (a : Nat → Nat) : zC := .inl (t, (n, .inr (.inr (.inr (.inr (fun i => if i < n then some (a i) else none))))))
section ZK
variable {n t c : Nat} {a : Nat → Int} {g : Nat → Bool} {r : Nat → Nat} {x : Nat → Int32} {u : Nat → UInt64} {fs : List Value} {j : Int32} {k : Nat}
theorem zco_O {a b : Nat} : zco (some (kO c fs)) a b = decide (c = a ∧ b < fs.length) := rfl
theorem zcf_O {b : Nat} : zcf (some (kO c fs)) b = fs.getD b .null := rfl
theorem zcs_O {b : Nat} {v : Value} : zcs (some (kO c fs)) b v = kO c (fs.set b v) := rfl
theorem zisc_O {a : Nat} : zisc (some (kO c fs)) a = decide (c = a) := rfl
theorem zr8_A : zr8 (some (kA n a)) j = zib j n := by show decide ((0 = 0 ∨ 0 = 8) ∧ zib j n = true) = _; simp
theorem zr8_S : zr8 (some (kS n x)) j = zib j n := by show decide ((8 = 0 ∨ 8 = 8) ∧ zib j n = true) = _; simp
theorem zri_A : zri (some (kA n a)) 0 j = zib j n := by show decide (0 = 0 ∧ zib j n = true) = _; simp
theorem zri_B : zri (some (kB n g)) 2 j = zib j n := by show decide (2 = 2 ∧ zib j n = true) = _; simp
theorem zri_C : zri (some (kC n a)) 3 j = zib j n := by show decide (3 = 3 ∧ zib j n = true) = _; simp
theorem zrl_L : zrl (some (kL n a)) j = zib j n := by show decide (1 = 1 ∧ zib j n = true) = _; simp
theorem zrd_D : zrd (some (kD n u)) j = zib j n := by show decide (4 = 4 ∧ zib j n = true) = _; simp
theorem zrq_R (ht : t = 5 ∨ t = 6 ∨ t = 7) : zrq (some (kR t n r)) j = zib j n := by
  show (decide ((t = 5 ∨ t = 6 ∨ t = 7) ∧ zib j n = true) && (if j.toNatClampNeg < n then some (r j.toNatClampNeg) else none).isSome) = _
  by_cases h : zib j n = true
  · rw [decide_eq_true ⟨ht, h⟩, h, if_pos]; rfl
    unfold zib at h
    exact of_decide_eq_true (Bool.and_eq_true_iff.mp h).2
  · rw [Bool.not_eq_true] at h
    rw [h, decide_eq_false]; rfl
    exact fun z => Bool.false_ne_true z.2
theorem zrs_R {j : Int32} {fs : List Value} : zrs (some (kR 5 n r)) (some (kO 2 fs)) j = zib j n := by
  show decide (5 = 5 ∧ 2 = 2 ∧ zib j n = true) = _; simp
theorem zgi_A : zgi (some (kA n a)) k = I (a k) := rfl
theorem zgi_S : zgi (some (kS n x)) k = x k := rfl
theorem zgi_B : zgi (some (kB n g)) k = I (if g k = true then 1 else 0) := rfl
theorem zgi_C : zgi (some (kC n a)) k = I (a k) := rfl
theorem zgl_L : zgl (some (kL n a)) k = J (a k) := rfl
theorem zgd_D : zgd (some (kD n u)) k = u k := rfl
theorem zgq_R (h : k < n) : zgq (some (kR t n r)) k = r k := by
  show (if k < n then some (r k) else none).getD 0 = _
  rw [if_pos h]; rfl
theorem zisa_A : zisa (some (kA n a)) = true := rfl
theorem zisa_S : zisa (some (kS n x)) = true := rfl
theorem zisa_L : zisa (some (kL n a)) = true := rfl
theorem zisa_B : zisa (some (kB n g)) = true := rfl
theorem zisa_R : zisa (some (kR t n r)) = true := rfl
theorem zln_A : zln (some (kA n a)) = n := rfl
theorem zln_S : zln (some (kS n x)) = n := rfl
theorem zln_L : zln (some (kL n a)) = n := rfl
theorem zln_B : zln (some (kB n g)) = n := rfl
theorem zln_R : zln (some (kR t n r)) = n := rfl
theorem zst_I {v : Int} : (fun j => if j = k then I v else I (a j)) = fun j => I (zst a k v j) := by
  funext j
  unfold zst
  split <;> rfl
theorem zwi_A {v : Int} : zwi (some (kA n a)) 0 k (I v) = kA n (zst a k v) := by
  show (Sum.inl (0, (n, Sum.inl (upd (fun k => I (a k)) k (vp_nar .int (I v))))) : zC) = _
  unfold kA
  rw [← zst_I]
  rfl
theorem zwi_B {v : Bool} : zwi (some (kB n g)) 2 k (I (if v = true then 1 else 0)) = kB n (zst g k v) := by
  show (Sum.inl (2, (n, Sum.inl (upd (fun k => I (if g k = true then 1 else 0)) k (vp_nar .boolean (I (if v = true then 1 else 0)))))) : zC) = _
  unfold kB
  have e : vp_nar .boolean (I (if v = true then 1 else 0)) = I (if v = true then 1 else 0) := by cases v <;> decide
  rw [e]
  congr 4
  funext j
  show (if j = k then _ else _) = _
  unfold zst
  split <;> rfl
theorem zwl_L {v : Int} : zwl (some (kL n a)) k (J v) = kL n (zst a k v) := by
  show (Sum.inl (1, (n, Sum.inr (Sum.inl (vp_updL (fun k => J (a k)) k (J v))))) : zC) = _
  unfold kL
  congr 5
  funext j
  show (if j = k then _ else _) = _
  unfold zst
  split <;> rfl
theorem zwd_D {v : UInt64} : zwd (some (kD n u)) k v = kD n (zst u k v) := rfl
theorem zwq_R {v : Nat} (h : k < n) : zwq (some (kR t n r)) k v = kR t n (zst r k v) := by
  show (Sum.inl (t, (n, Sum.inr (Sum.inr (Sum.inr (Sum.inr (va_up (fun i => if i < n then some (r i) else none) k (some v))))))) : zC) = _
  unfold kR
  congr 7
  funext j
  show (if j = k then some v else _) = _
  unfold zst
  by_cases hj : j = k
  · rw [if_pos hj, if_pos hj, if_pos (by rw [hj]; exact h)]
  · rw [if_neg hj, if_neg hj]
end ZK
theorem zup_same {f : zF} {p : Nat} {c : zC} : zup f p c p = some c := if_pos rfl
theorem zup_ne {f : zF} {p q : Nat} {c : zC} (h : q ≠ p) : zup f p c q = f q := if_neg h
theorem zup_up {f : zF} {p : Nat} {c c' : zC} : zup (zup f p c) p c' = zup f p c' := by
  funext j
  unfold zup
  split <;> rfl
theorem zup_at {f : zF} {p q : Nat} {c : zC} : zup f p c q = if q = p then some c else f q := rfl
theorem zup_self {f : zF} {p : Nat} {c : zC} (h : f p = some c) : zup f p c = f := by
  funext j
  unfold zup
  split
  · subst_vars; exact h.symm
  · rfl
theorem zup_comm {f : zF} {p q : Nat} {c c' : zC} (h : p ≠ q) : zup (zup f p c) q c' = zup (zup f q c') p c := by
  funext j
  unfold zup
  by_cases h1 : j = q
  · rw [if_pos h1, if_neg (fun z => h (z.symm.trans h1)), if_pos h1]
  · rw [if_neg h1]; by_cases h2 : j = p
    · rw [if_pos h2, if_pos h2]
    · rw [if_neg h2, if_neg h2, if_neg h1]
theorem zclr_i {x : Int32} : zclr (.int x) = .int x := rfl
theorem zclr_r {x : Nat} : zclr (.ref x) = .ref x := rfl
theorem zclr_l {x : Int64} : zclr (.long x) = .null := rfl
theorem zclr_d {x : UInt64} : zclr (.double x) = .null := rfl
theorem zclr_n : zclr .null = .null := rfl
theorem zok_i {x : Int32} : zok .int (.int x) = true := rfl
theorem zok_l {x : Int64} : zok .long (.long x) = true := rfl
theorem zok_b0 : zok .boolean (.int (I 0)) = true := by decide
theorem zok_b1 : zok .boolean (.int (I 1)) = true := by decide
theorem zok_bb {b : Bool} : zok .boolean (.int (I (if b = true then 1 else 0))) = true := by cases b <;> decide
theorem zfty_0_3 : zfty 0 3 = .int := rfl
theorem zfty_1_2 : zfty 1 2 = .int := rfl
theorem zfty_2_3 : zfty 2 3 = .int := rfl
theorem zfty_3_1 : zfty 3 1 = .int := rfl
theorem zfty_4_1 : zfty 4 1 = .int := rfl
theorem zfty_4_3 : zfty 4 3 = .int := rfl
theorem zfty_5_3 : zfty 5 3 = .long := rfl
theorem zfty_5_4 : zfty 5 4 = .long := rfl
theorem zfty_6_10 : zfty 6 10 = .int := rfl
theorem zfty_7_1 : zfty 7 1 = .int := rfl
theorem zfty_8_4 : zfty 8 4 = .boolean := rfl
theorem zfty_8_7 : zfty 8 7 = .int := rfl
theorem zfty_8_9 : zfty 8 9 = .int := rfl
theorem zfty_9_0 : zfty 9 0 = .int := rfl
theorem zfty_9_1 : zfty 9 1 = .int := rfl
theorem zfty_9_5 : zfty 9 5 = .int := rfl
theorem zfty_9_11 : zfty 9 11 = .int := rfl
theorem zfty_9_17 : zfty 9 17 = .boolean := rfl
theorem zfty_9_20 : zfty 9 20 = .int := rfl
theorem zfty_9_21 : zfty 9 21 = .int := rfl
theorem zfty_9_23 : zfty 9 23 = .int := rfl
