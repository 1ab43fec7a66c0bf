/-! THE LAW: its cases, what they share -/
theorem zc1_e0 {x : Int32} (h : x = 0) : (zc1 .eq x = true) = True := by
  subst h
  exact eq_true (by decide)
theorem zc1_e1 {x : Int32} (h : ¬ x = 0) : (zc1 .eq x = true) = False := by
  apply eq_false
  show ¬ decide (x = 0) = true
  rw [decide_eq_true_eq]
  exact h
theorem lgx (a : Int64) : (zc1 .eq (lg_cmp a a) = true) = True := by
  have e := ql_eq_t (a := a.toInt) (b := a.toInt) (by have := Int64.le_toInt a; omega) (by have := Int64.toInt_lt a; omega) (by have := Int64.le_toInt a; omega) (by have := Int64.toInt_lt a; omega) rfl
  rw [J_of] at e
  exact e
theorem i32_bd (x : Int32) : -2147483648 ≤ x.toInt ∧ x.toInt < 2147483648 := ⟨by have := Int32.le_toInt x; omega, by have := Int32.toInt_lt x; omega⟩
theorem I_of (x : Int32) : I x.toInt = x := Int32.ofInt_toInt x
theorem i64_nat (x : Int64) : ∃ N : Nat, N < 18446744073709551616 ∧ x = J (N : Int) := by
  refine ⟨x.toBitVec.toNat, x.toBitVec.isLt, ?_⟩
  apply Int64.toBitVec_inj.mp
  rw [J_bv]
  apply BitVec.eq_of_toNat_eq
  rw [BitVec.toNat_ofNat, Nat.mod_eq_of_lt x.toBitVec.isLt]
theorem i32_31 (x : Int32) : ∃ c : Nat, c < 32 ∧ x &&& I 31 = I (c : Int) := by
  refine ⟨x.toBitVec.toNat % 32, Nat.mod_lt _ (by decide), ?_⟩
  have e : x = I ((x.toBitVec.toNat : Nat) : Int) := by
    apply Int32.toBitVec_inj.mp
    rw [I_bv]
    apply BitVec.eq_of_toNat_eq
    rw [BitVec.toNat_ofNat, Nat.mod_eq_of_lt x.toBitVec.isLt]
  generalize x.toBitVec.toNat = n at *
  rw [e, show (31 : Int) = ((31 : Nat) : Int) from rfl, I_and]
  congr 2
  exact Nat.and_two_pow_sub_one_eq_mod n 5
/-- a round of the law's loop comes to its end -/
def lwN (d L : Nat) (xs : Nat → Int32) (r : zR) (i : Nat) (m : zM) : Prop := ∃ (f' : zF) (m' : zM) (a6 a7 a8 : Value), r = zex zTb d zqL_law 28 [.ref 0, .ref 1, .ref 266, .ref 284, .ref 285, .int (I ((i + 4 : Nat) : Int)), a6, a7, a8] [] f' m' ∧ lwX f' L xs ∧ m'.2.1 ≤ m.2.1 + 1 ∧ m'.2.2 ≤ m.2.2 + 6
