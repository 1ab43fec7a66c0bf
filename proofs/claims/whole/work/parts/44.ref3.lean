/-! SPECS: the reference tells a word, and whether a number is one -/
theorem I_and3 (a : Nat) : I a &&& I 3 = I ((a % 4 : Nat) : Int) := by
  rw [show (3 : Int) = ((3 : Nat) : Int) from rfl, I_and, Nat.and_two_pow_sub_one_eq_mod a 2]
/-- the number told, of the first i of L digits -/
def tw (w L : Nat) : Nat → Nat
  | 0 => 0
  | i + 1 => tw w L i * 256 + (96 + w / 2 ^ (2 * (L - 1 - i)) % 4)
/-- no 0 among the first k digits from the back -/
def nz4 (w : Nat) : Nat → Bool
  | 0 => true
  | k + 1 => nz4 w k && decide (w / 2 ^ (2 * k) % 4 ≠ 0)
section
variable {d w L : Nat} {f : zF} {m : zM}
theorem l_X10_tell (hw : w < 16384) (hL : L ≤ 7) : ∀ j i : Nat, i + j = L → ∀ s : Int, s = (L : Int) - 1 - i → zex zTb d zqX10_tell 9 [.int (I w), .long (J (tw w L i : Nat)), .null, .int (I s)] [] f m = some (.inl (some (.long (J (tw w L L : Nat)))), f, m) := by
  intro j
  induction j with
  | zero =>
    intro i hi s hs
    obtain rfl : i = L := by omega
    obtain rfl : s = -1 := by omega
    rw [ze_X10_tell_9]
    simp (disch := omega) only [ze_X10_tell_0, ze_X10_tell_6, ze_X10_tell_13, ze_X10_tell_37, zcal_v, zcal_n, zcalI_n, zco_O, zcf_O, zcs_O, zisc_O, zr8_A, zr8_S, zri_A, zri_B, zri_C, zrl_L, zrd_D, zrs_R, zgi_A, zgi_S, zgi_B, zgi_C, zgl_L, zgd_D, zisa_A, zisa_S, zisa_L, zisa_B, zisa_R, zln_A, zln_S, zln_L, zln_B, zln_R, zwi_A, zwl_L, zwd_D, zclr_i, zclr_r, zclr_l, zclr_d, zclr_n, zok_i, zok_l, zok_b0, zok_b1, I_add, I_sub, I_mul, I_neg, J_add, J_sub, J_mul, J_toI, I_ofNat, zib_I, I_cl, I_J, I_ne2, zup_same, zup_up, zup_ne, zc1_eqB, zc1_neB, zc1_eq, zc1_ne, zc1_lt, zc1_ge, zc1_gt, zc1_le, zc2_eq, zc2_ne, zc2_lt, zc2_ge, zc2_gt, zc2_le, lc_eq, lc_ne, lc_ge, lc_le, lc_gt, lc_lt, zret_b, zret_b0, zret_b1, List.getD_cons_zero, List.getD_cons_succ, List.length_cons, List.length_nil, List.set_cons_zero, List.set_cons_succ, Option.toList, List.cons_append, List.nil_append, Int.cast_ofNat_Int, decide_eq_true_eq, Bool.and_eq_true, and_self, true_and, and_true, if_true, if_false, not_true_eq_false, not_false_eq_true, reduceIte, Nat.reduceAdd, Nat.reduceLT, Nat.reduceLeDiff, Nat.reduceEqDiff, Int.reduceAdd, Int.reduceSub, Int.reduceMul, Int.reduceNeg, Int.reduceLT, Int.reduceLE, Int.reduceEq, Int.reduceToNat, Int.toNat_natCast, Nat.lt_add_one, Nat.zero_lt_succ]
  | succ j ih =>
    intro i hi s hs
    have b0 : (s < 0) = False := by apply propext; exact ⟨fun z => by omega, False.elim⟩
    have b1 : (2 * s).toNat = 2 * (L - 1 - i) := by omega
    have hb : w / 2 ^ (2 * (L - 1 - i)) % 4 < 4 := Nat.mod_lt _ (by omega)
    have b2 : (96 : Int) + ((w / 2 ^ (2 * (L - 1 - i)) % 4 : Nat) : Int) = ((96 + w / 2 ^ (2 * (L - 1 - i)) % 4 : Nat) : Int) := by omega
    have b3 : tw w L i * 256 ||| (96 + w / 2 ^ (2 * (L - 1 - i)) % 4) = tw w L (i + 1) := or_byte (by omega)
    rw [ze_X10_tell_9]
    simp (disch := omega) only [ze_X10_tell_0, ze_X10_tell_6, ze_X10_tell_13, ze_X10_tell_37, zcal_v, zcal_n, zcalI_n, zco_O, zcf_O, zcs_O, zisc_O, zr8_A, zr8_S, zri_A, zri_B, zri_C, zrl_L, zrd_D, zrs_R, zgi_A, zgi_S, zgi_B, zgi_C, zgl_L, zgd_D, zisa_A, zisa_S, zisa_L, zisa_B, zisa_R, zln_A, zln_S, zln_L, zln_B, zln_R, zwi_A, zwl_L, zwd_D, zclr_i, zclr_r, zclr_l, zclr_d, zclr_n, zok_i, zok_l, zok_b0, zok_b1, I_add, I_sub, I_mul, I_neg, J_add, J_sub, J_mul, J_toI, I_ofNat, zib_I, I_cl, I_J, I_ne2, zup_same, zup_up, zup_ne, zc1_eqB, zc1_neB, zc1_eq, zc1_ne, zc1_lt, zc1_ge, zc1_gt, zc1_le, zc2_eq, zc2_ne, zc2_lt, zc2_ge, zc2_gt, zc2_le, lc_eq, lc_ne, lc_ge, lc_le, lc_gt, lc_lt, zret_b, zret_b0, zret_b1, List.getD_cons_zero, List.getD_cons_succ, List.length_cons, List.length_nil, List.set_cons_zero, List.set_cons_succ, Option.toList, List.cons_append, List.nil_append, Int.cast_ofNat_Int, decide_eq_true_eq, Bool.and_eq_true, and_self, true_and, and_true, if_true, if_false, not_true_eq_false, not_false_eq_true, reduceIte, Nat.reduceAdd, Nat.reduceLT, Nat.reduceLeDiff, Nat.reduceEqDiff, Int.reduceAdd, Int.reduceSub, Int.reduceMul, Int.reduceNeg, Int.reduceLT, Int.reduceLE, Int.reduceEq, Int.reduceToNat, Int.toNat_natCast, Nat.lt_add_one, Nat.zero_lt_succ, b0, I_shrI, b1, I_and3, b2, J_shlI, Nat.reducePow, J_or, b3]
    exact ih (i + 1) (by omega) _ (by omega)
theorem s_X10_tell (hd : 2 ≤ d) (hL : L ≤ 7) (h : wsz4 w L) : zrun zTb d 118 [.int (I w)] f m = some (.inl (some (.long (J (tw w L L : Nat)))), f, m) := by
  obtain ⟨d, rfl⟩ : ∃ e, d = e + 1 := ⟨d - 1, by omega⟩
  have h3 : w < 2 ^ 14 := Nat.lt_of_lt_of_le h.1 (Nat.pow_le_pow_right (by omega) (by omega))
  have e1 := s_X10_size (d := d) (f := f) (m := m) (by omega) hL h
  rw [zs_X10_tell]
  simp (disch := omega) only [ze_X10_tell_0, ze_X10_tell_6, ze_X10_tell_13, ze_X10_tell_37, zcal_v, zcal_n, zcalI_n, zco_O, zcf_O, zcs_O, zisc_O, zr8_A, zr8_S, zri_A, zri_B, zri_C, zrl_L, zrd_D, zrs_R, zgi_A, zgi_S, zgi_B, zgi_C, zgl_L, zgd_D, zisa_A, zisa_S, zisa_L, zisa_B, zisa_R, zln_A, zln_S, zln_L, zln_B, zln_R, zwi_A, zwl_L, zwd_D, zclr_i, zclr_r, zclr_l, zclr_d, zclr_n, zok_i, zok_l, zok_b0, zok_b1, I_add, I_sub, I_mul, I_neg, J_add, J_sub, J_mul, J_toI, I_ofNat, zib_I, I_cl, I_J, I_ne2, zup_same, zup_up, zup_ne, zc1_eqB, zc1_neB, zc1_eq, zc1_ne, zc1_lt, zc1_ge, zc1_gt, zc1_le, zc2_eq, zc2_ne, zc2_lt, zc2_ge, zc2_gt, zc2_le, lc_eq, lc_ne, lc_ge, lc_le, lc_gt, lc_lt, zret_b, zret_b0, zret_b1, List.getD_cons_zero, List.getD_cons_succ, List.length_cons, List.length_nil, List.set_cons_zero, List.set_cons_succ, Option.toList, List.cons_append, List.nil_append, Int.cast_ofNat_Int, decide_eq_true_eq, Bool.and_eq_true, and_self, true_and, and_true, if_true, if_false, not_true_eq_false, not_false_eq_true, reduceIte, Nat.reduceAdd, Nat.reduceLT, Nat.reduceLeDiff, Nat.reduceEqDiff, Int.reduceAdd, Int.reduceSub, Int.reduceMul, Int.reduceNeg, Int.reduceLT, Int.reduceLE, Int.reduceEq, Int.reduceToNat, Int.toNat_natCast, Nat.lt_add_one, Nat.zero_lt_succ, e1]
  exact l_X10_tell (by omega) hL L 0 (by omega) _ (by omega)
theorem l_X10_isWord (hd : 1 ≤ d) (hL : L ≤ 7) (h : wsz4 w L) : ∀ j k : Nat, k + j = L → zex zTb d zqX10_isWord 4 [.int (I w), .int (I (if nz4 w k = true then 1 else 0)), .int (I k)] [] f m = some (.inl (some (.int (I (if nz4 w L = true then 1 else 0)))), f, m) := by
  have h3 : w < 2 ^ 14 := Nat.lt_of_lt_of_le h.1 (Nat.pow_le_pow_right (by omega) (by omega))
  have e1 := s_X10_size (d := d) (f := f) (m := m) hd hL h
  intro j
  induction j with
  | zero =>
    intro k hk
    obtain rfl : k = L := by omega
    have b1 : ((k : Int) ≤ k) = True := by apply propext; exact ⟨fun _ => trivial, fun _ => by omega⟩
    rw [ze_X10_isWord_4]
    simp (disch := omega) only [ze_X10_isWord_0, ze_X10_isWord_9, ze_X10_isWord_12, ze_X10_isWord_16, ze_X10_isWord_26, ze_X10_isWord_30, ze_X10_isWord_38, zcal_v, zcal_n, zcalI_n, zco_O, zcf_O, zcs_O, zisc_O, zr8_A, zr8_S, zri_A, zri_B, zri_C, zrl_L, zrd_D, zrs_R, zgi_A, zgi_S, zgi_B, zgi_C, zgl_L, zgd_D, zisa_A, zisa_S, zisa_L, zisa_B, zisa_R, zln_A, zln_S, zln_L, zln_B, zln_R, zwi_A, zwl_L, zwd_D, zclr_i, zclr_r, zclr_l, zclr_d, zclr_n, zok_i, zok_l, zok_b0, zok_b1, I_add, I_sub, I_mul, I_neg, J_add, J_sub, J_mul, J_toI, I_ofNat, zib_I, I_cl, I_J, I_ne2, zup_same, zup_up, zup_ne, zc1_eqB, zc1_neB, zc1_eq, zc1_ne, zc1_lt, zc1_ge, zc1_gt, zc1_le, zc2_eq, zc2_ne, zc2_lt, zc2_ge, zc2_gt, zc2_le, lc_eq, lc_ne, lc_ge, lc_le, lc_gt, lc_lt, zret_b, zret_b0, zret_b1, List.getD_cons_zero, List.getD_cons_succ, List.length_cons, List.length_nil, List.set_cons_zero, List.set_cons_succ, Option.toList, List.cons_append, List.nil_append, Int.cast_ofNat_Int, decide_eq_true_eq, Bool.and_eq_true, and_self, true_and, and_true, if_true, if_false, not_true_eq_false, not_false_eq_true, reduceIte, Nat.reduceAdd, Nat.reduceLT, Nat.reduceLeDiff, Nat.reduceEqDiff, Int.reduceAdd, Int.reduceSub, Int.reduceMul, Int.reduceNeg, Int.reduceLT, Int.reduceLE, Int.reduceEq, Int.reduceToNat, Int.toNat_natCast, Nat.lt_add_one, Nat.zero_lt_succ, e1, b1]
  | succ j ih =>
    intro k hk
    have b1 : ((L : Int) ≤ k) = False := by apply propext; exact ⟨fun z => by omega, False.elim⟩
    have b2 : (2 * (k : Int)).toNat = 2 * k := by omega
    have hb : w / 2 ^ (2 * k) % 4 < 4 := Nat.mod_lt _ (by omega)
    have hi := ih (k + 1) (by omega)
    rw [show nz4 w (k + 1) = (nz4 w k && decide (w / 2 ^ (2 * k) % 4 ≠ 0)) from rfl] at hi
    rw [ze_X10_isWord_4]
    cases hz : nz4 w k with
    | false =>
      rw [hz, Bool.false_and, if_neg Bool.false_ne_true] at hi
      rw [if_neg Bool.false_ne_true]
      simp (disch := omega) only [ze_X10_isWord_0, ze_X10_isWord_9, ze_X10_isWord_12, ze_X10_isWord_16, ze_X10_isWord_26, ze_X10_isWord_30, ze_X10_isWord_38, zcal_v, zcal_n, zcalI_n, zco_O, zcf_O, zcs_O, zisc_O, zr8_A, zr8_S, zri_A, zri_B, zri_C, zrl_L, zrd_D, zrs_R, zgi_A, zgi_S, zgi_B, zgi_C, zgl_L, zgd_D, zisa_A, zisa_S, zisa_L, zisa_B, zisa_R, zln_A, zln_S, zln_L, zln_B, zln_R, zwi_A, zwl_L, zwd_D, zclr_i, zclr_r, zclr_l, zclr_d, zclr_n, zok_i, zok_l, zok_b0, zok_b1, I_add, I_sub, I_mul, I_neg, J_add, J_sub, J_mul, J_toI, I_ofNat, zib_I, I_cl, I_J, I_ne2, zup_same, zup_up, zup_ne, zc1_eqB, zc1_neB, zc1_eq, zc1_ne, zc1_lt, zc1_ge, zc1_gt, zc1_le, zc2_eq, zc2_ne, zc2_lt, zc2_ge, zc2_gt, zc2_le, lc_eq, lc_ne, lc_ge, lc_le, lc_gt, lc_lt, zret_b, zret_b0, zret_b1, List.getD_cons_zero, List.getD_cons_succ, List.length_cons, List.length_nil, List.set_cons_zero, List.set_cons_succ, Option.toList, List.cons_append, List.nil_append, Int.cast_ofNat_Int, decide_eq_true_eq, Bool.and_eq_true, and_self, true_and, and_true, if_true, if_false, not_true_eq_false, not_false_eq_true, reduceIte, Nat.reduceAdd, Nat.reduceLT, Nat.reduceLeDiff, Nat.reduceEqDiff, Int.reduceAdd, Int.reduceSub, Int.reduceMul, Int.reduceNeg, Int.reduceLT, Int.reduceLE, Int.reduceEq, Int.reduceToNat, Int.toNat_natCast, Nat.lt_add_one, Nat.zero_lt_succ, e1, b1]
      exact hi
    | true =>
      rw [hz, Bool.true_and] at hi
      rw [if_pos rfl]
      by_cases h0 : w / 2 ^ (2 * k) % 4 = 0
      · have b3 : (((w / 2 ^ (2 * k) % 4 : Nat) : Int) = 0) = True := by apply propext; exact ⟨fun _ => trivial, fun _ => by omega⟩
        rw [if_neg (by rw [decide_eq_true_eq]; exact fun z => z h0)] at hi
        simp (disch := omega) only [ze_X10_isWord_0, ze_X10_isWord_9, ze_X10_isWord_12, ze_X10_isWord_16, ze_X10_isWord_26, ze_X10_isWord_30, ze_X10_isWord_38, zcal_v, zcal_n, zcalI_n, zco_O, zcf_O, zcs_O, zisc_O, zr8_A, zr8_S, zri_A, zri_B, zri_C, zrl_L, zrd_D, zrs_R, zgi_A, zgi_S, zgi_B, zgi_C, zgl_L, zgd_D, zisa_A, zisa_S, zisa_L, zisa_B, zisa_R, zln_A, zln_S, zln_L, zln_B, zln_R, zwi_A, zwl_L, zwd_D, zclr_i, zclr_r, zclr_l, zclr_d, zclr_n, zok_i, zok_l, zok_b0, zok_b1, I_add, I_sub, I_mul, I_neg, J_add, J_sub, J_mul, J_toI, I_ofNat, zib_I, I_cl, I_J, I_ne2, zup_same, zup_up, zup_ne, zc1_eqB, zc1_neB, zc1_eq, zc1_ne, zc1_lt, zc1_ge, zc1_gt, zc1_le, zc2_eq, zc2_ne, zc2_lt, zc2_ge, zc2_gt, zc2_le, lc_eq, lc_ne, lc_ge, lc_le, lc_gt, lc_lt, zret_b, zret_b0, zret_b1, List.getD_cons_zero, List.getD_cons_succ, List.length_cons, List.length_nil, List.set_cons_zero, List.set_cons_succ, Option.toList, List.cons_append, List.nil_append, Int.cast_ofNat_Int, decide_eq_true_eq, Bool.and_eq_true, and_self, true_and, and_true, if_true, if_false, not_true_eq_false, not_false_eq_true, reduceIte, Nat.reduceAdd, Nat.reduceLT, Nat.reduceLeDiff, Nat.reduceEqDiff, Int.reduceAdd, Int.reduceSub, Int.reduceMul, Int.reduceNeg, Int.reduceLT, Int.reduceLE, Int.reduceEq, Int.reduceToNat, Int.toNat_natCast, Nat.lt_add_one, Nat.zero_lt_succ, e1, b1, I_shrI, b2, I_and3, b3]
        exact hi
      · have b3 : (((w / 2 ^ (2 * k) % 4 : Nat) : Int) = 0) = False := by apply propext; exact ⟨fun z => by omega, False.elim⟩
        rw [if_pos (by rw [decide_eq_true_eq]; exact h0)] at hi
        simp (disch := omega) only [ze_X10_isWord_0, ze_X10_isWord_9, ze_X10_isWord_12, ze_X10_isWord_16, ze_X10_isWord_26, ze_X10_isWord_30, ze_X10_isWord_38, zcal_v, zcal_n, zcalI_n, zco_O, zcf_O, zcs_O, zisc_O, zr8_A, zr8_S, zri_A, zri_B, zri_C, zrl_L, zrd_D, zrs_R, zgi_A, zgi_S, zgi_B, zgi_C, zgl_L, zgd_D, zisa_A, zisa_S, zisa_L, zisa_B, zisa_R, zln_A, zln_S, zln_L, zln_B, zln_R, zwi_A, zwl_L, zwd_D, zclr_i, zclr_r, zclr_l, zclr_d, zclr_n, zok_i, zok_l, zok_b0, zok_b1, I_add, I_sub, I_mul, I_neg, J_add, J_sub, J_mul, J_toI, I_ofNat, zib_I, I_cl, I_J, I_ne2, zup_same, zup_up, zup_ne, zc1_eqB, zc1_neB, zc1_eq, zc1_ne, zc1_lt, zc1_ge, zc1_gt, zc1_le, zc2_eq, zc2_ne, zc2_lt, zc2_ge, zc2_gt, zc2_le, lc_eq, lc_ne, lc_ge, lc_le, lc_gt, lc_lt, zret_b, zret_b0, zret_b1, List.getD_cons_zero, List.getD_cons_succ, List.length_cons, List.length_nil, List.set_cons_zero, List.set_cons_succ, Option.toList, List.cons_append, List.nil_append, Int.cast_ofNat_Int, decide_eq_true_eq, Bool.and_eq_true, and_self, true_and, and_true, if_true, if_false, not_true_eq_false, not_false_eq_true, reduceIte, Nat.reduceAdd, Nat.reduceLT, Nat.reduceLeDiff, Nat.reduceEqDiff, Int.reduceAdd, Int.reduceSub, Int.reduceMul, Int.reduceNeg, Int.reduceLT, Int.reduceLE, Int.reduceEq, Int.reduceToNat, Int.toNat_natCast, Nat.lt_add_one, Nat.zero_lt_succ, e1, b1, I_shrI, b2, I_and3, b3]
        exact hi
theorem s_X10_isWord (hd : 2 ≤ d) (hL : L ≤ 7) (h : wsz4 w L) : zrun zTb d 159 [.int (I w)] f m = some (.inl (some (.int (I (if nz4 w L = true then 1 else 0)))), f, m) := by
  obtain ⟨d, rfl⟩ : ∃ e, d = e + 1 := ⟨d - 1, by omega⟩
  rw [zs_X10_isWord]
  simp only [ze_X10_isWord_0, ze_X10_isWord_9, ze_X10_isWord_12, ze_X10_isWord_16, ze_X10_isWord_26, ze_X10_isWord_30, ze_X10_isWord_38, zclr_i]
  exact l_X10_isWord (by omega) hL h L 0 (by omega)
end
