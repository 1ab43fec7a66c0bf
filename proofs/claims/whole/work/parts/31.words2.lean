/-! SPECS: words, packed -/
theorem or_byte {a c : Nat} (h : c < 256) : a * 256 ||| c = a * 256 + c := by
  have := Nat.two_pow_add_eq_or_of_lt (i := 8) (b := c) h a
  rw [Nat.mul_comm a 256]
  exact this.symm
theorem l_X8_packed {d n : Nat} {f : zF} {m : zM} (hn : n < 18446744073709551616) : ∀ k : Nat, k ≤ 8 → ∀ (s : Int) (a5 a6 : Value), s = 8 * (k : Int) - 8 → zex zTb d zqX8_packed 6 [.long (J n), .null, .long (J (wpk (wh n k) : Nat)), .null, .int (I s), a5, a6] [] f m = some (.inl (some (.long (J (wpk (wl n 8) : Nat)))), f, m) := by
  intro k
  induction k with
  | zero =>
    intro _ s a5 a6 hs
    obtain rfl : s = -8 := by omega
    have h0 := wh_app (n := n) (k := 0) (by omega)
    rw [show wl n 0 = [] from rfl, List.append_nil] at h0
    rw [ze_X8_packed_6]
    simp (disch := omega) only [ze_X8_packed_0, ze_X8_packed_11, ze_X8_packed_28, ze_X8_packed_36, ze_X8_packed_42, zcal_v, zcal_n, zcalI_n, zco_O, zcf_O, zcs_O, zisc_O, zr8_A, zr8_S, zri_A, zri_B, zri_C, zrl_L, zrd_D, zrs_R, zgi_A, zgi_S, zgi_B, zgi_C, zgl_L, zgd_D, zisa_A, zisa_S, zisa_L, zisa_B, zisa_R, zln_A, zln_S, zln_L, zln_B, zln_R, zwi_A, zwl_L, zwd_D, zclr_i, zclr_r, zclr_l, zclr_d, zclr_n, zok_i, zok_l, zok_b0, zok_b1, I_add, I_sub, I_mul, I_neg, J_add, J_sub, J_mul, J_toI, I_ofNat, zib_I, I_cl, I_J, I_ne2, zup_same, zup_up, zc1_eqB, zc1_neB, zc1_eq, zc1_ne, zc1_lt, zc1_ge, zc1_gt, zc1_le, zc2_eq, zc2_ne, zc2_lt, zc2_ge, zc2_gt, zc2_le, lc_eq, lc_ne, lc_ge, lc_le, lc_gt, lc_lt, zret_b, zret_b0, zret_b1, List.getD_cons_zero, List.getD_cons_succ, List.length_cons, List.length_nil, List.set_cons_zero, List.set_cons_succ, Option.toList, List.cons_append, List.nil_append, Int.cast_ofNat_Int, decide_eq_true_eq, Bool.and_eq_true, and_self, true_and, and_true, if_true, if_false, not_true_eq_false, not_false_eq_true, reduceIte, Nat.reduceAdd, Nat.reduceLT, Nat.reduceLeDiff, Nat.reduceEqDiff, Int.reduceAdd, Int.reduceSub, Int.reduceMul, Int.reduceNeg, Int.reduceLT, Int.reduceLE, Int.reduceEq, Int.reduceToNat, Int.toNat_natCast, Nat.lt_add_one, Nat.zero_lt_succ, h0]
  | succ k ih =>
    intro hk s a5 a6 hs
    obtain rfl : s = 8 * (k : Int) := by omega
    have hb := bt_lt (n := n) (s := 8 * k)
    have h8 : (8 * (k : Int)).toNat = 8 * k := by omega
    have hw := wh_step (n := n) (k := k) (by omega)
    rw [ze_X8_packed_6]
    simp (disch := omega) only [ze_X8_packed_0, ze_X8_packed_11, ze_X8_packed_28, ze_X8_packed_36, ze_X8_packed_42, zcal_v, zcal_n, zcalI_n, zco_O, zcf_O, zcs_O, zisc_O, zr8_A, zr8_S, zri_A, zri_B, zri_C, zrl_L, zrd_D, zrs_R, zgi_A, zgi_S, zgi_B, zgi_C, zgl_L, zgd_D, zisa_A, zisa_S, zisa_L, zisa_B, zisa_R, zln_A, zln_S, zln_L, zln_B, zln_R, zwi_A, zwl_L, zwd_D, zclr_i, zclr_r, zclr_l, zclr_d, zclr_n, zok_i, zok_l, zok_b0, zok_b1, I_add, I_sub, I_mul, I_neg, J_add, J_sub, J_mul, J_toI, I_ofNat, zib_I, I_cl, I_J, I_ne2, zup_same, zup_up, zc1_eqB, zc1_neB, zc1_eq, zc1_ne, zc1_lt, zc1_ge, zc1_gt, zc1_le, zc2_eq, zc2_ne, zc2_lt, zc2_ge, zc2_gt, zc2_le, lc_eq, lc_ne, lc_ge, lc_le, lc_gt, lc_lt, zret_b, zret_b0, zret_b1, List.getD_cons_zero, List.getD_cons_succ, List.length_cons, List.length_nil, List.set_cons_zero, List.set_cons_succ, Option.toList, List.cons_append, List.nil_append, Int.cast_ofNat_Int, decide_eq_true_eq, Bool.and_eq_true, and_self, true_and, and_true, if_true, if_false, not_true_eq_false, not_false_eq_true, reduceIte, Nat.reduceAdd, Nat.reduceLT, Nat.reduceLeDiff, Nat.reduceEqDiff, Int.reduceAdd, Int.reduceSub, Int.reduceMul, Int.reduceNeg, Int.reduceLT, Int.reduceLE, Int.reduceEq, Int.reduceToNat, Int.toNat_natCast, Nat.lt_add_one, Nat.zero_lt_succ, J_byte, h8, J_shlI, J_or, Nat.reducePow, or_byte hb]
    rw [if_neg (by omega)]
    by_cases h0 : bt n (8 * k) = 0
    · rw [if_pos (by omega)]
      rw [if_pos h0] at hw
      rw [← hw]
      exact ih (by omega) _ _ _ (by omega)
    · rw [if_neg (by omega)]
      rw [if_neg h0] at hw
      rw [← wpk_snoc, ← hw]
      exact ih (by omega) _ _ _ (by omega)
theorem s_X8_packed {d n : Nat} {f : zF} {m : zM} (hd : 1 ≤ d) (hn : n < 18446744073709551616) : zrun zTb d 72 [.long (J n)] f m = some (.inl (some (.long (J (wpk (wl n 8) : Nat)))), f, m) := by
  obtain ⟨d, rfl⟩ : ∃ e, d = e + 1 := ⟨d - 1, by omega⟩
  rw [zs_X8_packed]
  simp only [ze_X8_packed_0, ze_X8_packed_11, ze_X8_packed_28, ze_X8_packed_36, ze_X8_packed_42, zclr_n]
  have h8 : wh n 8 = [] := by
    have := wh_app (n := n) (k := 8) (by omega)
    exact List.append_cancel_right (this.trans (List.nil_append _).symm)
  have := l_X8_packed (d := d) (f := f) (m := m) hn 8 (by omega) 56 .null .null (by omega)
  rw [h8] at this
  exact this
theorem J_andmask (w k : Nat) : J w &&& J ((2 ^ k : Nat) - 1) = J ((w % 2 ^ k : Nat) : Int) := by
  have : ((2 ^ k : Nat) : Int) - 1 = ((2 ^ k - 1 : Nat) : Int) := by
    have := Nat.two_pow_pos k
    omega
  rw [this, J_and, Nat.and_two_pow_sub_one_eq_mod]
theorem s_X8_ending {d w : Nat} {k : Int} {f : zF} {m : zM} (hd : 1 ≤ d) (hk : 0 ≤ k) (hk2 : k < 8) : zrun zTb d 74 [.long (J w), .int (I k)] f m = some (.inl (some (.long (J (w % 2 ^ (8 * k).toNat : Nat)))), f, m) := by
  obtain ⟨d, rfl⟩ : ∃ e, d = e + 1 := ⟨d - 1, by omega⟩
  rw [zs_X8_ending]
  simp (disch := omega) only [ze_X8_ending_0, zcal_v, zcal_n, zcalI_n, zco_O, zcf_O, zcs_O, zisc_O, zr8_A, zr8_S, zri_A, zri_B, zri_C, zrl_L, zrd_D, zrs_R, zgi_A, zgi_S, zgi_B, zgi_C, zgl_L, zgd_D, zisa_A, zisa_S, zisa_L, zisa_B, zisa_R, zln_A, zln_S, zln_L, zln_B, zln_R, zwi_A, zwl_L, zwd_D, zclr_i, zclr_r, zclr_l, zclr_d, zclr_n, zok_i, zok_l, zok_b0, zok_b1, I_add, I_sub, I_mul, I_neg, J_add, J_sub, J_mul, J_toI, I_ofNat, zib_I, I_cl, I_J, I_ne2, zup_same, zup_up, zc1_eqB, zc1_neB, zc1_eq, zc1_ne, zc1_lt, zc1_ge, zc1_gt, zc1_le, zc2_eq, zc2_ne, zc2_lt, zc2_ge, zc2_gt, zc2_le, lc_eq, lc_ne, lc_ge, lc_le, lc_gt, lc_lt, zret_b, zret_b0, zret_b1, List.getD_cons_zero, List.getD_cons_succ, List.length_cons, List.length_nil, List.set_cons_zero, List.set_cons_succ, Option.toList, List.cons_append, List.nil_append, Int.cast_ofNat_Int, decide_eq_true_eq, Bool.and_eq_true, and_self, true_and, and_true, if_true, if_false, not_true_eq_false, not_false_eq_true, reduceIte, Nat.reduceAdd, Nat.reduceLT, Nat.reduceLeDiff, Nat.reduceEqDiff, Int.reduceAdd, Int.reduceSub, Int.reduceMul, Int.reduceNeg, Int.reduceLT, Int.reduceLE, Int.reduceEq, Int.reduceToNat, Int.toNat_natCast, Nat.lt_add_one, Nat.zero_lt_succ, J_shl1, J_andmask]
/-- a number with that many bytes, the first of them not 0 -/
def wsz (w L : Nat) : Prop := w < 2 ^ (8 * L) ∧ ∀ k, k < L → 2 ^ (8 * k) ≤ w
theorem l_X8_lengthOf {d w L : Nat} {f : zF} {m : zM} (hw : w < 18446744073709551616) (hL : L ≤ 6) (h : wsz w L) : ∀ j k : Nat, k + j = L → zex zTb d zqX8_lengthOf 4 [.long (J w), .null, .int (I k), .int (I k)] [] f m = some (.inl (some (.int (I L))), f, m) := by
  intro j
  induction j with
  | zero =>
    intro k hk
    obtain rfl : k = L := by omega
    have h8 : (8 * (k : Int)).toNat = 8 * k := by omega
    have h1 : w / 2 ^ (8 * k) = 0 := Nat.div_eq_of_lt h.1
    rw [ze_X8_lengthOf_4]
    simp (disch := omega) only [ze_X8_lengthOf_0, ze_X8_lengthOf_10, ze_X8_lengthOf_21, ze_X8_lengthOf_30, zcal_v, zcal_n, zcalI_n, zco_O, zcf_O, zcs_O, zisc_O, zr8_A, zr8_S, zri_A, zri_B, zri_C, zrl_L, zrd_D, zrs_R, zgi_A, zgi_S, zgi_B, zgi_C, zgl_L, zgd_D, zisa_A, zisa_S, zisa_L, zisa_B, zisa_R, zln_A, zln_S, zln_L, zln_B, zln_R, zwi_A, zwl_L, zwd_D, zclr_i, zclr_r, zclr_l, zclr_d, zclr_n, zok_i, zok_l, zok_b0, zok_b1, I_add, I_sub, I_mul, I_neg, J_add, J_sub, J_mul, J_toI, I_ofNat, zib_I, I_cl, I_J, I_ne2, zup_same, zup_up, zc1_eqB, zc1_neB, zc1_eq, zc1_ne, zc1_lt, zc1_ge, zc1_gt, zc1_le, zc2_eq, zc2_ne, zc2_lt, zc2_ge, zc2_gt, zc2_le, lc_eq, lc_ne, lc_ge, lc_le, lc_gt, lc_lt, zret_b, zret_b0, zret_b1, List.getD_cons_zero, List.getD_cons_succ, List.length_cons, List.length_nil, List.set_cons_zero, List.set_cons_succ, Option.toList, List.cons_append, List.nil_append, Int.cast_ofNat_Int, decide_eq_true_eq, Bool.and_eq_true, and_self, true_and, and_true, if_true, if_false, not_true_eq_false, not_false_eq_true, reduceIte, Nat.reduceAdd, Nat.reduceLT, Nat.reduceLeDiff, Nat.reduceEqDiff, Int.reduceAdd, Int.reduceSub, Int.reduceMul, Int.reduceNeg, Int.reduceLT, Int.reduceLE, Int.reduceEq, Int.reduceToNat, Int.toNat_natCast, Nat.lt_add_one, Nat.zero_lt_succ, J_ushrI, h8, h1, Int.natCast_zero, ite_self]
  | succ j ih =>
    intro k hk
    have h8 : (8 * (k : Int)).toNat = 8 * k := by omega
    have h1 : 1 ≤ w / 2 ^ (8 * k) := (Nat.le_div_iff_mul_le (Nat.two_pow_pos _)).mpr (by rw [Nat.one_mul]; exact h.2 k (by omega))
    have h2 : w / 2 ^ (8 * k) ≤ w := Nat.div_le_self _ _
    have h3 : w < 2 ^ 48 := Nat.lt_of_lt_of_le h.1 (Nat.pow_le_pow_right (by omega) (by omega))
    rw [ze_X8_lengthOf_4]
    simp (disch := omega) only [ze_X8_lengthOf_0, ze_X8_lengthOf_10, ze_X8_lengthOf_21, ze_X8_lengthOf_30, zcal_v, zcal_n, zcalI_n, zco_O, zcf_O, zcs_O, zisc_O, zr8_A, zr8_S, zri_A, zri_B, zri_C, zrl_L, zrd_D, zrs_R, zgi_A, zgi_S, zgi_B, zgi_C, zgl_L, zgd_D, zisa_A, zisa_S, zisa_L, zisa_B, zisa_R, zln_A, zln_S, zln_L, zln_B, zln_R, zwi_A, zwl_L, zwd_D, zclr_i, zclr_r, zclr_l, zclr_d, zclr_n, zok_i, zok_l, zok_b0, zok_b1, I_add, I_sub, I_mul, I_neg, J_add, J_sub, J_mul, J_toI, I_ofNat, zib_I, I_cl, I_J, I_ne2, zup_same, zup_up, zc1_eqB, zc1_neB, zc1_eq, zc1_ne, zc1_lt, zc1_ge, zc1_gt, zc1_le, zc2_eq, zc2_ne, zc2_lt, zc2_ge, zc2_gt, zc2_le, lc_eq, lc_ne, lc_ge, lc_le, lc_gt, lc_lt, zret_b, zret_b0, zret_b1, List.getD_cons_zero, List.getD_cons_succ, List.length_cons, List.length_nil, List.set_cons_zero, List.set_cons_succ, Option.toList, List.cons_append, List.nil_append, Int.cast_ofNat_Int, decide_eq_true_eq, Bool.and_eq_true, and_self, true_and, and_true, if_true, if_false, not_true_eq_false, not_false_eq_true, reduceIte, Nat.reduceAdd, Nat.reduceLT, Nat.reduceLeDiff, Nat.reduceEqDiff, Int.reduceAdd, Int.reduceSub, Int.reduceMul, Int.reduceNeg, Int.reduceLT, Int.reduceLE, Int.reduceEq, Int.reduceToNat, Int.toNat_natCast, Nat.lt_add_one, Nat.zero_lt_succ, J_ushrI, h8]
    rw [if_neg (by omega), if_neg (by omega)]
    exact ih (k + 1) (by omega)
theorem s_X8_lengthOf {d w L : Nat} {f : zF} {m : zM} (hd : 1 ≤ d) (hL : L ≤ 6) (h : wsz w L) : zrun zTb d 73 [.long (J w)] f m = some (.inl (some (.int (I L))), f, m) := by
  obtain ⟨d, rfl⟩ : ∃ e, d = e + 1 := ⟨d - 1, by omega⟩
  have h3 : w < 2 ^ 48 := Nat.lt_of_lt_of_le h.1 (Nat.pow_le_pow_right (by omega) (by omega))
  rw [zs_X8_lengthOf]
  simp only [ze_X8_lengthOf_0, ze_X8_lengthOf_10, ze_X8_lengthOf_21, ze_X8_lengthOf_30, zclr_n]
  exact l_X8_lengthOf (by omega) hL h L 0 (by omega)
