/-! CONDITIONS decided by the side goals, NUMBERS as casts -/
section AU
variable {a b : Int} {n : Nat}
theorem q1_eq_t (h1 : -2147483648 ≤ a) (h2 : a < 2147483648) (h : a = 0) : (zc1 .eq (I a) = true) = True := by rw [zc1_eq h1 h2, decide_eq_true h]; exact eq_self true
theorem q1_eq_f (h1 : -2147483648 ≤ a) (h2 : a < 2147483648) (h : ¬ (a = 0)) : (zc1 .eq (I a) = true) = False := by rw [zc1_eq h1 h2, decide_eq_false (by omega)]; exact eq_false Bool.false_ne_true
theorem q1_ne_t (h1 : -2147483648 ≤ a) (h2 : a < 2147483648) (h : ¬ a = 0) : (zc1 .ne (I a) = true) = True := by rw [zc1_ne h1 h2, decide_eq_true h]; exact eq_self true
theorem q1_ne_f (h1 : -2147483648 ≤ a) (h2 : a < 2147483648) (h : a = 0) : (zc1 .ne (I a) = true) = False := by rw [zc1_ne h1 h2, decide_eq_false (by omega)]; exact eq_false Bool.false_ne_true
theorem q1_lt_t (h1 : -2147483648 ≤ a) (h2 : a < 2147483648) (h : a < 0) : (zc1 .lt (I a) = true) = True := by rw [zc1_lt h1 h2, decide_eq_true h]; exact eq_self true
theorem q1_lt_f (h1 : -2147483648 ≤ a) (h2 : a < 2147483648) (h : ¬ (a < 0)) : (zc1 .lt (I a) = true) = False := by rw [zc1_lt h1 h2, decide_eq_false (by omega)]; exact eq_false Bool.false_ne_true
theorem q1_ge_t (h1 : -2147483648 ≤ a) (h2 : a < 2147483648) (h : 0 ≤ a) : (zc1 .ge (I a) = true) = True := by rw [zc1_ge h1 h2, decide_eq_true h]; exact eq_self true
theorem q1_ge_f (h1 : -2147483648 ≤ a) (h2 : a < 2147483648) (h : ¬ (0 ≤ a)) : (zc1 .ge (I a) = true) = False := by rw [zc1_ge h1 h2, decide_eq_false (by omega)]; exact eq_false Bool.false_ne_true
theorem q1_gt_t (h1 : -2147483648 ≤ a) (h2 : a < 2147483648) (h : 0 < a) : (zc1 .gt (I a) = true) = True := by rw [zc1_gt h1 h2, decide_eq_true h]; exact eq_self true
theorem q1_gt_f (h1 : -2147483648 ≤ a) (h2 : a < 2147483648) (h : ¬ (0 < a)) : (zc1 .gt (I a) = true) = False := by rw [zc1_gt h1 h2, decide_eq_false (by omega)]; exact eq_false Bool.false_ne_true
theorem q1_le_t (h1 : -2147483648 ≤ a) (h2 : a < 2147483648) (h : a ≤ 0) : (zc1 .le (I a) = true) = True := by rw [zc1_le h1 h2, decide_eq_true h]; exact eq_self true
theorem q1_le_f (h1 : -2147483648 ≤ a) (h2 : a < 2147483648) (h : ¬ (a ≤ 0)) : (zc1 .le (I a) = true) = False := by rw [zc1_le h1 h2, decide_eq_false (by omega)]; exact eq_false Bool.false_ne_true
theorem q2_eq_t (h1 : -2147483648 ≤ a) (h2 : a < 2147483648) (h3 : -2147483648 ≤ b) (h4 : b < 2147483648) (h : a = b) : (zc2 .eq (I a) (I b) = true) = True := by rw [zc2_eq h1 h2 h3 h4, decide_eq_true h]; exact eq_self true
theorem q2_eq_f (h1 : -2147483648 ≤ a) (h2 : a < 2147483648) (h3 : -2147483648 ≤ b) (h4 : b < 2147483648) (h : ¬ (a = b)) : (zc2 .eq (I a) (I b) = true) = False := by rw [zc2_eq h1 h2 h3 h4, decide_eq_false (by omega)]; exact eq_false Bool.false_ne_true
theorem ql_eq_t (h1 : -9223372036854775808 ≤ a) (h2 : a < 9223372036854775808) (h3 : -9223372036854775808 ≤ b) (h4 : b < 9223372036854775808) (h : a = b) : (zc1 .eq (lg_cmp (J a) (J b)) = true) = True := by rw [lc_eq h1 h2 h3 h4, decide_eq_true h]; exact eq_self true
theorem ql_eq_f (h1 : -9223372036854775808 ≤ a) (h2 : a < 9223372036854775808) (h3 : -9223372036854775808 ≤ b) (h4 : b < 9223372036854775808) (h : ¬ (a = b)) : (zc1 .eq (lg_cmp (J a) (J b)) = true) = False := by rw [lc_eq h1 h2 h3 h4, decide_eq_false (by omega)]; exact eq_false Bool.false_ne_true
theorem q2_ne_t (h1 : -2147483648 ≤ a) (h2 : a < 2147483648) (h3 : -2147483648 ≤ b) (h4 : b < 2147483648) (h : ¬ a = b) : (zc2 .ne (I a) (I b) = true) = True := by rw [zc2_ne h1 h2 h3 h4, decide_eq_true h]; exact eq_self true
theorem q2_ne_f (h1 : -2147483648 ≤ a) (h2 : a < 2147483648) (h3 : -2147483648 ≤ b) (h4 : b < 2147483648) (h : a = b) : (zc2 .ne (I a) (I b) = true) = False := by rw [zc2_ne h1 h2 h3 h4, decide_eq_false (by omega)]; exact eq_false Bool.false_ne_true
theorem ql_ne_t (h1 : -9223372036854775808 ≤ a) (h2 : a < 9223372036854775808) (h3 : -9223372036854775808 ≤ b) (h4 : b < 9223372036854775808) (h : ¬ a = b) : (zc1 .ne (lg_cmp (J a) (J b)) = true) = True := by rw [lc_ne h1 h2 h3 h4, decide_eq_true h]; exact eq_self true
theorem ql_ne_f (h1 : -9223372036854775808 ≤ a) (h2 : a < 9223372036854775808) (h3 : -9223372036854775808 ≤ b) (h4 : b < 9223372036854775808) (h : a = b) : (zc1 .ne (lg_cmp (J a) (J b)) = true) = False := by rw [lc_ne h1 h2 h3 h4, decide_eq_false (by omega)]; exact eq_false Bool.false_ne_true
theorem q2_lt_t (h1 : -2147483648 ≤ a) (h2 : a < 2147483648) (h3 : -2147483648 ≤ b) (h4 : b < 2147483648) (h : a < b) : (zc2 .lt (I a) (I b) = true) = True := by rw [zc2_lt h1 h2 h3 h4, decide_eq_true h]; exact eq_self true
theorem q2_lt_f (h1 : -2147483648 ≤ a) (h2 : a < 2147483648) (h3 : -2147483648 ≤ b) (h4 : b < 2147483648) (h : ¬ (a < b)) : (zc2 .lt (I a) (I b) = true) = False := by rw [zc2_lt h1 h2 h3 h4, decide_eq_false (by omega)]; exact eq_false Bool.false_ne_true
theorem ql_lt_t (h1 : -9223372036854775808 ≤ a) (h2 : a < 9223372036854775808) (h3 : -9223372036854775808 ≤ b) (h4 : b < 9223372036854775808) (h : a < b) : (zc1 .lt (lg_cmp (J a) (J b)) = true) = True := by rw [lc_lt h1 h2 h3 h4, decide_eq_true h]; exact eq_self true
theorem ql_lt_f (h1 : -9223372036854775808 ≤ a) (h2 : a < 9223372036854775808) (h3 : -9223372036854775808 ≤ b) (h4 : b < 9223372036854775808) (h : ¬ (a < b)) : (zc1 .lt (lg_cmp (J a) (J b)) = true) = False := by rw [lc_lt h1 h2 h3 h4, decide_eq_false (by omega)]; exact eq_false Bool.false_ne_true
theorem q2_ge_t (h1 : -2147483648 ≤ a) (h2 : a < 2147483648) (h3 : -2147483648 ≤ b) (h4 : b < 2147483648) (h : b ≤ a) : (zc2 .ge (I a) (I b) = true) = True := by rw [zc2_ge h1 h2 h3 h4, decide_eq_true h]; exact eq_self true
theorem q2_ge_f (h1 : -2147483648 ≤ a) (h2 : a < 2147483648) (h3 : -2147483648 ≤ b) (h4 : b < 2147483648) (h : ¬ (b ≤ a)) : (zc2 .ge (I a) (I b) = true) = False := by rw [zc2_ge h1 h2 h3 h4, decide_eq_false (by omega)]; exact eq_false Bool.false_ne_true
theorem ql_ge_t (h1 : -9223372036854775808 ≤ a) (h2 : a < 9223372036854775808) (h3 : -9223372036854775808 ≤ b) (h4 : b < 9223372036854775808) (h : b ≤ a) : (zc1 .ge (lg_cmp (J a) (J b)) = true) = True := by rw [lc_ge h1 h2 h3 h4, decide_eq_true h]; exact eq_self true
theorem ql_ge_f (h1 : -9223372036854775808 ≤ a) (h2 : a < 9223372036854775808) (h3 : -9223372036854775808 ≤ b) (h4 : b < 9223372036854775808) (h : ¬ (b ≤ a)) : (zc1 .ge (lg_cmp (J a) (J b)) = true) = False := by rw [lc_ge h1 h2 h3 h4, decide_eq_false (by omega)]; exact eq_false Bool.false_ne_true
theorem q2_gt_t (h1 : -2147483648 ≤ a) (h2 : a < 2147483648) (h3 : -2147483648 ≤ b) (h4 : b < 2147483648) (h : b < a) : (zc2 .gt (I a) (I b) = true) = True := by rw [zc2_gt h1 h2 h3 h4, decide_eq_true h]; exact eq_self true
theorem q2_gt_f (h1 : -2147483648 ≤ a) (h2 : a < 2147483648) (h3 : -2147483648 ≤ b) (h4 : b < 2147483648) (h : ¬ (b < a)) : (zc2 .gt (I a) (I b) = true) = False := by rw [zc2_gt h1 h2 h3 h4, decide_eq_false (by omega)]; exact eq_false Bool.false_ne_true
theorem ql_gt_t (h1 : -9223372036854775808 ≤ a) (h2 : a < 9223372036854775808) (h3 : -9223372036854775808 ≤ b) (h4 : b < 9223372036854775808) (h : b < a) : (zc1 .gt (lg_cmp (J a) (J b)) = true) = True := by rw [lc_gt h1 h2 h3 h4, decide_eq_true h]; exact eq_self true
theorem ql_gt_f (h1 : -9223372036854775808 ≤ a) (h2 : a < 9223372036854775808) (h3 : -9223372036854775808 ≤ b) (h4 : b < 9223372036854775808) (h : ¬ (b < a)) : (zc1 .gt (lg_cmp (J a) (J b)) = true) = False := by rw [lc_gt h1 h2 h3 h4, decide_eq_false (by omega)]; exact eq_false Bool.false_ne_true
theorem q2_le_t (h1 : -2147483648 ≤ a) (h2 : a < 2147483648) (h3 : -2147483648 ≤ b) (h4 : b < 2147483648) (h : a ≤ b) : (zc2 .le (I a) (I b) = true) = True := by rw [zc2_le h1 h2 h3 h4, decide_eq_true h]; exact eq_self true
theorem q2_le_f (h1 : -2147483648 ≤ a) (h2 : a < 2147483648) (h3 : -2147483648 ≤ b) (h4 : b < 2147483648) (h : ¬ (a ≤ b)) : (zc2 .le (I a) (I b) = true) = False := by rw [zc2_le h1 h2 h3 h4, decide_eq_false (by omega)]; exact eq_false Bool.false_ne_true
theorem ql_le_t (h1 : -9223372036854775808 ≤ a) (h2 : a < 9223372036854775808) (h3 : -9223372036854775808 ≤ b) (h4 : b < 9223372036854775808) (h : a ≤ b) : (zc1 .le (lg_cmp (J a) (J b)) = true) = True := by rw [lc_le h1 h2 h3 h4, decide_eq_true h]; exact eq_self true
theorem ql_le_f (h1 : -9223372036854775808 ≤ a) (h2 : a < 9223372036854775808) (h3 : -9223372036854775808 ≤ b) (h4 : b < 9223372036854775808) (h : ¬ (a ≤ b)) : (zc1 .le (lg_cmp (J a) (J b)) = true) = False := by rw [lc_le h1 h2 h3 h4, decide_eq_false (by omega)]; exact eq_false Bool.false_ne_true
theorem zib_t (h1 : 0 ≤ a) (h2 : a < n) (h3 : a < 2147483648) : (zib (I a) n = true) = True := by
  rw [zib_I (by omega) h3, decide_eq_true ⟨h1, h2⟩]; exact eq_self true
theorem qb_t {P : Prop} [Decidable P] (h : P) : I (if P then 1 else 0) = I 1 := by rw [if_pos h]
theorem qb_f {P : Prop} [Decidable P] (h : ¬ P) : I (if P then 1 else 0) = I 0 := by rw [if_neg h]
theorem nk_add (a b : Nat) : (a : Int) + (b : Int) = ((a + b : Nat) : Int) := rfl
theorem nk_mul (a b : Nat) : (a : Int) * (b : Int) = ((a * b : Nat) : Int) := rfl
theorem nk_sub {a b : Nat} (h : b ≤ a) : (a : Int) - (b : Int) = ((a - b : Nat) : Int) := (Int.ofNat_sub h).symm
theorem nk_r1 (a : Nat) : (a : Int) + 1 = ((a + 1 : Nat) : Int) := rfl
theorem nk_l1 (a : Nat) : 1 + (a : Int) = ((1 + a : Nat) : Int) := rfl
theorem nk_m1 (a : Nat) : 1 * (a : Int) = ((1 * a : Nat) : Int) := rfl
theorem nk_n1 (a : Nat) : (a : Int) * 1 = ((a * 1 : Nat) : Int) := rfl
theorem nk_s1 {a : Nat} (h : 1 ≤ a) : (a : Int) - 1 = ((a - 1 : Nat) : Int) := (Int.ofNat_sub h).symm
theorem nk_t1 {a : Nat} (h : a ≤ 1) : 1 - (a : Int) = ((1 - a : Nat) : Int) := (Int.ofNat_sub h).symm
theorem nk_r2 (a : Nat) : (a : Int) + 2 = ((a + 2 : Nat) : Int) := rfl
theorem nk_l2 (a : Nat) : 2 + (a : Int) = ((2 + a : Nat) : Int) := rfl
theorem nk_m2 (a : Nat) : 2 * (a : Int) = ((2 * a : Nat) : Int) := rfl
theorem nk_n2 (a : Nat) : (a : Int) * 2 = ((a * 2 : Nat) : Int) := rfl
theorem nk_s2 {a : Nat} (h : 2 ≤ a) : (a : Int) - 2 = ((a - 2 : Nat) : Int) := (Int.ofNat_sub h).symm
theorem nk_t2 {a : Nat} (h : a ≤ 2) : 2 - (a : Int) = ((2 - a : Nat) : Int) := (Int.ofNat_sub h).symm
theorem nk_r3 (a : Nat) : (a : Int) + 3 = ((a + 3 : Nat) : Int) := rfl
theorem nk_l3 (a : Nat) : 3 + (a : Int) = ((3 + a : Nat) : Int) := rfl
theorem nk_m3 (a : Nat) : 3 * (a : Int) = ((3 * a : Nat) : Int) := rfl
theorem nk_n3 (a : Nat) : (a : Int) * 3 = ((a * 3 : Nat) : Int) := rfl
theorem nk_s3 {a : Nat} (h : 3 ≤ a) : (a : Int) - 3 = ((a - 3 : Nat) : Int) := (Int.ofNat_sub h).symm
theorem nk_t3 {a : Nat} (h : a ≤ 3) : 3 - (a : Int) = ((3 - a : Nat) : Int) := (Int.ofNat_sub h).symm
theorem nk_r4 (a : Nat) : (a : Int) + 4 = ((a + 4 : Nat) : Int) := rfl
theorem nk_l4 (a : Nat) : 4 + (a : Int) = ((4 + a : Nat) : Int) := rfl
theorem nk_m4 (a : Nat) : 4 * (a : Int) = ((4 * a : Nat) : Int) := rfl
theorem nk_n4 (a : Nat) : (a : Int) * 4 = ((a * 4 : Nat) : Int) := rfl
theorem nk_s4 {a : Nat} (h : 4 ≤ a) : (a : Int) - 4 = ((a - 4 : Nat) : Int) := (Int.ofNat_sub h).symm
theorem nk_t4 {a : Nat} (h : a ≤ 4) : 4 - (a : Int) = ((4 - a : Nat) : Int) := (Int.ofNat_sub h).symm
theorem nk_r6 (a : Nat) : (a : Int) + 6 = ((a + 6 : Nat) : Int) := rfl
theorem nk_l6 (a : Nat) : 6 + (a : Int) = ((6 + a : Nat) : Int) := rfl
theorem nk_m6 (a : Nat) : 6 * (a : Int) = ((6 * a : Nat) : Int) := rfl
theorem nk_n6 (a : Nat) : (a : Int) * 6 = ((a * 6 : Nat) : Int) := rfl
theorem nk_s6 {a : Nat} (h : 6 ≤ a) : (a : Int) - 6 = ((a - 6 : Nat) : Int) := (Int.ofNat_sub h).symm
theorem nk_t6 {a : Nat} (h : a ≤ 6) : 6 - (a : Int) = ((6 - a : Nat) : Int) := (Int.ofNat_sub h).symm
theorem nk_r7 (a : Nat) : (a : Int) + 7 = ((a + 7 : Nat) : Int) := rfl
theorem nk_l7 (a : Nat) : 7 + (a : Int) = ((7 + a : Nat) : Int) := rfl
theorem nk_m7 (a : Nat) : 7 * (a : Int) = ((7 * a : Nat) : Int) := rfl
theorem nk_n7 (a : Nat) : (a : Int) * 7 = ((a * 7 : Nat) : Int) := rfl
theorem nk_s7 {a : Nat} (h : 7 ≤ a) : (a : Int) - 7 = ((a - 7 : Nat) : Int) := (Int.ofNat_sub h).symm
theorem nk_t7 {a : Nat} (h : a ≤ 7) : 7 - (a : Int) = ((7 - a : Nat) : Int) := (Int.ofNat_sub h).symm
theorem nk_r8 (a : Nat) : (a : Int) + 8 = ((a + 8 : Nat) : Int) := rfl
theorem nk_l8 (a : Nat) : 8 + (a : Int) = ((8 + a : Nat) : Int) := rfl
theorem nk_m8 (a : Nat) : 8 * (a : Int) = ((8 * a : Nat) : Int) := rfl
theorem nk_n8 (a : Nat) : (a : Int) * 8 = ((a * 8 : Nat) : Int) := rfl
theorem nk_s8 {a : Nat} (h : 8 ≤ a) : (a : Int) - 8 = ((a - 8 : Nat) : Int) := (Int.ofNat_sub h).symm
theorem nk_t8 {a : Nat} (h : a ≤ 8) : 8 - (a : Int) = ((8 - a : Nat) : Int) := (Int.ofNat_sub h).symm
theorem nk_r12 (a : Nat) : (a : Int) + 12 = ((a + 12 : Nat) : Int) := rfl
theorem nk_l12 (a : Nat) : 12 + (a : Int) = ((12 + a : Nat) : Int) := rfl
theorem nk_m12 (a : Nat) : 12 * (a : Int) = ((12 * a : Nat) : Int) := rfl
theorem nk_n12 (a : Nat) : (a : Int) * 12 = ((a * 12 : Nat) : Int) := rfl
theorem nk_s12 {a : Nat} (h : 12 ≤ a) : (a : Int) - 12 = ((a - 12 : Nat) : Int) := (Int.ofNat_sub h).symm
theorem nk_t12 {a : Nat} (h : a ≤ 12) : 12 - (a : Int) = ((12 - a : Nat) : Int) := (Int.ofNat_sub h).symm
theorem nk_r31 (a : Nat) : (a : Int) + 31 = ((a + 31 : Nat) : Int) := rfl
theorem nk_l31 (a : Nat) : 31 + (a : Int) = ((31 + a : Nat) : Int) := rfl
theorem nk_m31 (a : Nat) : 31 * (a : Int) = ((31 * a : Nat) : Int) := rfl
theorem nk_n31 (a : Nat) : (a : Int) * 31 = ((a * 31 : Nat) : Int) := rfl
theorem nk_s31 {a : Nat} (h : 31 ≤ a) : (a : Int) - 31 = ((a - 31 : Nat) : Int) := (Int.ofNat_sub h).symm
theorem nk_t31 {a : Nat} (h : a ≤ 31) : 31 - (a : Int) = ((31 - a : Nat) : Int) := (Int.ofNat_sub h).symm
theorem nk_r32 (a : Nat) : (a : Int) + 32 = ((a + 32 : Nat) : Int) := rfl
theorem nk_l32 (a : Nat) : 32 + (a : Int) = ((32 + a : Nat) : Int) := rfl
theorem nk_m32 (a : Nat) : 32 * (a : Int) = ((32 * a : Nat) : Int) := rfl
theorem nk_n32 (a : Nat) : (a : Int) * 32 = ((a * 32 : Nat) : Int) := rfl
theorem nk_s32 {a : Nat} (h : 32 ≤ a) : (a : Int) - 32 = ((a - 32 : Nat) : Int) := (Int.ofNat_sub h).symm
theorem nk_t32 {a : Nat} (h : a ≤ 32) : 32 - (a : Int) = ((32 - a : Nat) : Int) := (Int.ofNat_sub h).symm
theorem nk_r59 (a : Nat) : (a : Int) + 59 = ((a + 59 : Nat) : Int) := rfl
theorem nk_l59 (a : Nat) : 59 + (a : Int) = ((59 + a : Nat) : Int) := rfl
theorem nk_m59 (a : Nat) : 59 * (a : Int) = ((59 * a : Nat) : Int) := rfl
theorem nk_n59 (a : Nat) : (a : Int) * 59 = ((a * 59 : Nat) : Int) := rfl
theorem nk_s59 {a : Nat} (h : 59 ≤ a) : (a : Int) - 59 = ((a - 59 : Nat) : Int) := (Int.ofNat_sub h).symm
theorem nk_t59 {a : Nat} (h : a ≤ 59) : 59 - (a : Int) = ((59 - a : Nat) : Int) := (Int.ofNat_sub h).symm
theorem nk_r60 (a : Nat) : (a : Int) + 60 = ((a + 60 : Nat) : Int) := rfl
theorem nk_l60 (a : Nat) : 60 + (a : Int) = ((60 + a : Nat) : Int) := rfl
theorem nk_m60 (a : Nat) : 60 * (a : Int) = ((60 * a : Nat) : Int) := rfl
theorem nk_n60 (a : Nat) : (a : Int) * 60 = ((a * 60 : Nat) : Int) := rfl
theorem nk_s60 {a : Nat} (h : 60 ≤ a) : (a : Int) - 60 = ((a - 60 : Nat) : Int) := (Int.ofNat_sub h).symm
theorem nk_t60 {a : Nat} (h : a ≤ 60) : 60 - (a : Int) = ((60 - a : Nat) : Int) := (Int.ofNat_sub h).symm
theorem nk_r96 (a : Nat) : (a : Int) + 96 = ((a + 96 : Nat) : Int) := rfl
theorem nk_l96 (a : Nat) : 96 + (a : Int) = ((96 + a : Nat) : Int) := rfl
theorem nk_m96 (a : Nat) : 96 * (a : Int) = ((96 * a : Nat) : Int) := rfl
theorem nk_n96 (a : Nat) : (a : Int) * 96 = ((a * 96 : Nat) : Int) := rfl
theorem nk_s96 {a : Nat} (h : 96 ≤ a) : (a : Int) - 96 = ((a - 96 : Nat) : Int) := (Int.ofNat_sub h).symm
theorem nk_t96 {a : Nat} (h : a ≤ 96) : 96 - (a : Int) = ((96 - a : Nat) : Int) := (Int.ofNat_sub h).symm
theorem nk_r97 (a : Nat) : (a : Int) + 97 = ((a + 97 : Nat) : Int) := rfl
theorem nk_l97 (a : Nat) : 97 + (a : Int) = ((97 + a : Nat) : Int) := rfl
theorem nk_m97 (a : Nat) : 97 * (a : Int) = ((97 * a : Nat) : Int) := rfl
theorem nk_n97 (a : Nat) : (a : Int) * 97 = ((a * 97 : Nat) : Int) := rfl
theorem nk_s97 {a : Nat} (h : 97 ≤ a) : (a : Int) - 97 = ((a - 97 : Nat) : Int) := (Int.ofNat_sub h).symm
theorem nk_t97 {a : Nat} (h : a ≤ 97) : 97 - (a : Int) = ((97 - a : Nat) : Int) := (Int.ofNat_sub h).symm
theorem nk_r120 (a : Nat) : (a : Int) + 120 = ((a + 120 : Nat) : Int) := rfl
theorem nk_l120 (a : Nat) : 120 + (a : Int) = ((120 + a : Nat) : Int) := rfl
theorem nk_m120 (a : Nat) : 120 * (a : Int) = ((120 * a : Nat) : Int) := rfl
theorem nk_n120 (a : Nat) : (a : Int) * 120 = ((a * 120 : Nat) : Int) := rfl
theorem nk_s120 {a : Nat} (h : 120 ≤ a) : (a : Int) - 120 = ((a - 120 : Nat) : Int) := (Int.ofNat_sub h).symm
theorem nk_t120 {a : Nat} (h : a ≤ 120) : 120 - (a : Int) = ((120 - a : Nat) : Int) := (Int.ofNat_sub h).symm
theorem nk_r240 (a : Nat) : (a : Int) + 240 = ((a + 240 : Nat) : Int) := rfl
theorem nk_l240 (a : Nat) : 240 + (a : Int) = ((240 + a : Nat) : Int) := rfl
theorem nk_m240 (a : Nat) : 240 * (a : Int) = ((240 * a : Nat) : Int) := rfl
theorem nk_n240 (a : Nat) : (a : Int) * 240 = ((a * 240 : Nat) : Int) := rfl
theorem nk_s240 {a : Nat} (h : 240 ≤ a) : (a : Int) - 240 = ((a - 240 : Nat) : Int) := (Int.ofNat_sub h).symm
theorem nk_t240 {a : Nat} (h : a ≤ 240) : 240 - (a : Int) = ((240 - a : Nat) : Int) := (Int.ofNat_sub h).symm
theorem nk_r255 (a : Nat) : (a : Int) + 255 = ((a + 255 : Nat) : Int) := rfl
theorem nk_l255 (a : Nat) : 255 + (a : Int) = ((255 + a : Nat) : Int) := rfl
theorem nk_m255 (a : Nat) : 255 * (a : Int) = ((255 * a : Nat) : Int) := rfl
theorem nk_n255 (a : Nat) : (a : Int) * 255 = ((a * 255 : Nat) : Int) := rfl
theorem nk_s255 {a : Nat} (h : 255 ≤ a) : (a : Int) - 255 = ((a - 255 : Nat) : Int) := (Int.ofNat_sub h).symm
theorem nk_t255 {a : Nat} (h : a ≤ 255) : 255 - (a : Int) = ((255 - a : Nat) : Int) := (Int.ofNat_sub h).symm
theorem nk_r256 (a : Nat) : (a : Int) + 256 = ((a + 256 : Nat) : Int) := rfl
theorem nk_l256 (a : Nat) : 256 + (a : Int) = ((256 + a : Nat) : Int) := rfl
theorem nk_m256 (a : Nat) : 256 * (a : Int) = ((256 * a : Nat) : Int) := rfl
theorem nk_n256 (a : Nat) : (a : Int) * 256 = ((a * 256 : Nat) : Int) := rfl
theorem nk_s256 {a : Nat} (h : 256 ≤ a) : (a : Int) - 256 = ((a - 256 : Nat) : Int) := (Int.ofNat_sub h).symm
theorem nk_t256 {a : Nat} (h : a ≤ 256) : 256 - (a : Int) = ((256 - a : Nat) : Int) := (Int.ofNat_sub h).symm
theorem nk_d1 {a : Nat} (h : 1 ≤ a) : (a : Int) + -1 = ((a - 1 : Nat) : Int) := by omega
theorem nk_d0 : ((0 : Nat) : Int) + -1 = -1 := by decide
theorem nk_toNat (a : Nat) : ((a : Int)).toNat = a := rfl
end AU
/-- nothing outside a stretch of the heap has changed -/
def fre (a b : Nat) (f g : zF) : Prop := ∀ i, (i < a ∨ b < i) → g i = f i
theorem fre_refl {a b : Nat} {f : zF} : fre a b f f := fun _ _ => rfl
theorem fre_trans {a b : Nat} {f g h : zF} (h1 : fre a b f g) (h2 : fre a b g h) : fre a b f h := fun i hi => (h2 i hi).trans (h1 i hi)
theorem fre_mono {a b a' b' : Nat} {f g : zF} (h : fre a' b' f g) (h1 : a ≤ a') (h2 : b' ≤ b) : fre a b f g := fun i hi => h i (by omega)
theorem fre_zup {a b k : Nat} {f g : zF} {c : zC} (h : fre a b f g) (h1 : a ≤ k) (h2 : k ≤ b) : fre a b f (zup g k c) := fun i hi => (zup_ne (by omega)).trans (h i hi)
theorem fre_up {a b k : Nat} {f : zF} {c : zC} (h1 : a ≤ k) (h2 : k ≤ b) : fre a b f (zup f k c) := fre_zup fre_refl h1 h2
theorem fre_pat {a b p n : Nat} {f g : zF} {K L Z : Nat → Int} (h : fre a b f g) (hp : pat f p n K L Z) (h1 : p + 3 < a ∨ b < p) : pat g p n K L Z := ⟨(h _ (by omega)).trans hp.1, (h _ (by omega)).trans hp.2.1, (h _ (by omega)).trans hp.2.2.1, (h _ (by omega)).trans hp.2.2.2⟩
theorem fre_sett {f : zF} {len : Nat} {LT : Nat → Int} {E : Nat → Nat → Nat} : fre 147 209 f (sett f len LT E) := fun _ hi => sett_ne hi
theorem fre_setp {f : zF} {p n : Nat} {K L Z : Nat → Int} : fre p (p + 3) f (setp f p n K L Z) := fun _ hi => setp_ne hi
