/-! SPECS: the reference: a node ahead of a row; the empty parts of a word -/
def emp : Nat → Nat
  | 0 => 0
  | k + 1 => emp k ||| 2 ^ (8 * k)
section
variable {d : Nat} {f : zF} {m : zM} {thr ex pc kp fd pl stt te x : Int} {N SZ : Nat → Int}
theorem l_X10_empties {s : Nat} (hd : 1 ≤ d) (hs : s ≤ 6) : ∀ j k : Nat, k + j = s + 1 → zex zTb d zqX10_empties 4 [.int (I s), .long (J (emp k : Nat)), .null, .int (I k)] [] f m = some (.inl (some (.long (J (emp (s + 1) : Nat)))), f, m) := by
  intro j
  induction j with
  | zero =>
    intro k hk
    obtain rfl : k = s + 1 := by omega
    have b1 : ((s : Int) < ((s + 1 : Nat) : Int)) = True := by apply propext; exact ⟨fun _ => trivial, fun _ => by omega⟩
    rw [ze_X10_empties_4]
    simp (disch := omega) only [ze_X10_empties_0, ze_X10_empties_9, ze_X10_empties_15, ze_X10_empties_23, zcal_v, zcal_n, zcalI_n, zco_O, zcf_O, zcs_O, zisc_O, zr8_A, zr8_S, zri_A, zri_B, zri_C, zrl_L, zrd_D, zrs_R, zgi_A, zgi_S, zgi_B, zgi_C, zgl_L, zgd_D, zisa_A, zisa_S, zisa_L, zisa_B, zisa_R, zln_A, zln_S, zln_L, zln_B, zln_R, zwi_A, zwl_L, zwd_D, zclr_i, zclr_r, zclr_l, zclr_d, zclr_n, zok_i, zok_l, zok_b0, zok_b1, I_add, I_sub, I_mul, I_neg, J_add, J_sub, J_mul, J_toI, I_ofNat, zib_I, I_cl, I_J, I_ne2, zup_same, zup_up, zup_ne, zc1_eqB, zc1_neB, zc1_eq, zc1_ne, zc1_lt, zc1_ge, zc1_gt, zc1_le, zc2_eq, zc2_ne, zc2_lt, zc2_ge, zc2_gt, zc2_le, lc_eq, lc_ne, lc_ge, lc_le, lc_gt, lc_lt, zret_b, zret_b0, zret_b1, List.getD_cons_zero, List.getD_cons_succ, List.length_cons, List.length_nil, List.set_cons_zero, List.set_cons_succ, Option.toList, List.cons_append, List.nil_append, Int.cast_ofNat_Int, decide_eq_true_eq, Bool.and_eq_true, and_self, true_and, and_true, if_true, if_false, not_true_eq_false, not_false_eq_true, reduceIte, Nat.reduceAdd, Nat.reduceLT, Nat.reduceLeDiff, Nat.reduceEqDiff, Int.reduceAdd, Int.reduceSub, Int.reduceMul, Int.reduceNeg, Int.reduceLT, Int.reduceLE, Int.reduceEq, Int.reduceToNat, Int.toNat_natCast, Nat.lt_add_one, Nat.zero_lt_succ, b1]
  | succ j ih =>
    intro k hk
    have b1 : ((s : Int) < (k : Int)) = False := by apply propext; exact ⟨fun z => by omega, False.elim⟩
    have e1 := s_X10_bit (d := d) (f := f) (m := m) (a := k) (b := k) hd (by omega) (by omega) (by omega) (by omega)
    rw [show (7 * (k : Int) + k).toNat = 8 * k by omega] at e1
    rw [ze_X10_empties_4]
    simp (disch := omega) only [ze_X10_empties_0, ze_X10_empties_9, ze_X10_empties_15, ze_X10_empties_23, zcal_v, zcal_n, zcalI_n, zco_O, zcf_O, zcs_O, zisc_O, zr8_A, zr8_S, zri_A, zri_B, zri_C, zrl_L, zrd_D, zrs_R, zgi_A, zgi_S, zgi_B, zgi_C, zgl_L, zgd_D, zisa_A, zisa_S, zisa_L, zisa_B, zisa_R, zln_A, zln_S, zln_L, zln_B, zln_R, zwi_A, zwl_L, zwd_D, zclr_i, zclr_r, zclr_l, zclr_d, zclr_n, zok_i, zok_l, zok_b0, zok_b1, I_add, I_sub, I_mul, I_neg, J_add, J_sub, J_mul, J_toI, I_ofNat, zib_I, I_cl, I_J, I_ne2, zup_same, zup_up, zup_ne, zc1_eqB, zc1_neB, zc1_eq, zc1_ne, zc1_lt, zc1_ge, zc1_gt, zc1_le, zc2_eq, zc2_ne, zc2_lt, zc2_ge, zc2_gt, zc2_le, lc_eq, lc_ne, lc_ge, lc_le, lc_gt, lc_lt, zret_b, zret_b0, zret_b1, List.getD_cons_zero, List.getD_cons_succ, List.length_cons, List.length_nil, List.set_cons_zero, List.set_cons_succ, Option.toList, List.cons_append, List.nil_append, Int.cast_ofNat_Int, decide_eq_true_eq, Bool.and_eq_true, and_self, true_and, and_true, if_true, if_false, not_true_eq_false, not_false_eq_true, reduceIte, Nat.reduceAdd, Nat.reduceLT, Nat.reduceLeDiff, Nat.reduceEqDiff, Int.reduceAdd, Int.reduceSub, Int.reduceMul, Int.reduceNeg, Int.reduceLT, Int.reduceLE, Int.reduceEq, Int.reduceToNat, Int.toNat_natCast, Nat.lt_add_one, Nat.zero_lt_succ, b1, e1, J_or]
    exact ih (k + 1) (by omega)
theorem s_X10_empties {s : Nat} (hd : 2 ≤ d) (hs : s ≤ 6) : zrun zTb d 156 [.int (I s)] f m = some (.inl (some (.long (J (emp (s + 1) : Nat)))), f, m) := by
  obtain ⟨d, rfl⟩ : ∃ e, d = e + 1 := ⟨d - 1, by omega⟩
  rw [zs_X10_empties]
  simp only [ze_X10_empties_0, ze_X10_empties_9, ze_X10_empties_15, ze_X10_empties_23, zclr_i]
  exact l_X10_empties (by omega) hs (s + 1) 0 (by omega)
theorem l_X10_putAhead {r n : Nat} (h : f 266 = some (mo thr ex pc kp fd pl stt te)) (hS : f 281 = some (kA 13 SZ)) (hr : r < 13) (hn : SZ r = n) (hn2 : n < 60) : ∀ i : Nat, i ≤ n → zex zTb d zqX10_putAhead 7 [.ref 266, .int (I r), .int (I x), .int (I i)] [] (zup f 280 (kA 780 (psh N (60 * r + n) (60 * r + i)))) m = some (.inl none, zup (zup f 280 (kA 780 (zst (psh N (60 * r + n) (60 * r)) (60 * r) x))) 281 (kA 13 (zst SZ r ((n : Int) + 1))), m) := by
  unfold mo at h
  have b0 : (0 ≤ (r : Int) ∧ (r : Int) < 13) = True := by apply propext; exact ⟨fun _ => trivial, fun _ => ⟨by omega, by omega⟩⟩
  intro i
  induction i with
  | zero =>
    intro _
    have b1 : (0 ≤ 60 * (r : Int) ∧ 60 * (r : Int) < 780) = True := by apply propext; exact ⟨fun _ => trivial, fun _ => ⟨by omega, by omega⟩⟩
    have b2 : (60 * (r : Int)).toNat = 60 * r := by omega
    rw [ze_X10_putAhead_7]
    simp (disch := omega) only [ze_X10_putAhead_0, ze_X10_putAhead_4, ze_X10_putAhead_6, ze_X10_putAhead_11, ze_X10_putAhead_15, ze_X10_putAhead_25, ze_X10_putAhead_34, ze_X10_putAhead_35, ze_X10_putAhead_41, ze_X10_putAhead_45, ze_X10_putAhead_51, ze_X10_putAhead_55, ze_X10_putAhead_58, ze_X10_putAhead_61, zcal_v, zcal_n, zcalI_n, zco_O, zcf_O, zcs_O, zisc_O, zr8_A, zr8_S, zri_A, zri_B, zri_C, zrl_L, zrd_D, zrs_R, zgi_A, zgi_S, zgi_B, zgi_C, zgl_L, zgd_D, zisa_A, zisa_S, zisa_L, zisa_B, zisa_R, zln_A, zln_S, zln_L, zln_B, zln_R, zwi_A, zwl_L, zwd_D, zclr_i, zclr_r, zclr_l, zclr_d, zclr_n, zok_i, zok_l, zok_b0, zok_b1, I_add, I_sub, I_mul, I_neg, J_add, J_sub, J_mul, J_toI, I_ofNat, zib_I, I_cl, I_J, I_ne2, zup_same, zup_up, zup_ne, zc1_eqB, zc1_neB, zc1_eq, zc1_ne, zc1_lt, zc1_ge, zc1_gt, zc1_le, zc2_eq, zc2_ne, zc2_lt, zc2_ge, zc2_gt, zc2_le, lc_eq, lc_ne, lc_ge, lc_le, lc_gt, lc_lt, zret_b, zret_b0, zret_b1, List.getD_cons_zero, List.getD_cons_succ, List.length_cons, List.length_nil, List.set_cons_zero, List.set_cons_succ, Option.toList, List.cons_append, List.nil_append, Int.cast_ofNat_Int, decide_eq_true_eq, Bool.and_eq_true, and_self, true_and, and_true, if_true, if_false, not_true_eq_false, not_false_eq_true, reduceIte, Nat.reduceAdd, Nat.reduceLT, Nat.reduceLeDiff, Nat.reduceEqDiff, Int.reduceAdd, Int.reduceSub, Int.reduceMul, Int.reduceNeg, Int.reduceLT, Int.reduceLE, Int.reduceEq, Int.reduceToNat, Int.toNat_natCast, Nat.lt_add_one, Nat.zero_lt_succ, h, hS, hn, b0, b1, b2, Int.natCast_zero, Nat.add_zero]
  | succ i ih =>
    intro hi
    have b1 : (((i + 1 : Nat) : Int) ≤ 0) = False := by apply propext; exact ⟨fun z => by omega, False.elim⟩
    have b2 : (0 ≤ 60 * (r : Int) + ((i + 1 : Nat) : Int) ∧ 60 * (r : Int) + ((i + 1 : Nat) : Int) < 780) = True := by apply propext; exact ⟨fun _ => trivial, fun _ => ⟨by omega, by omega⟩⟩
    have b3 : (60 * (r : Int) + ((i + 1 : Nat) : Int)).toNat = 60 * r + i + 1 := by omega
    have b4 : (0 ≤ 60 * (r : Int) + ((i + 1 : Nat) : Int) - 1 ∧ 60 * (r : Int) + ((i + 1 : Nat) : Int) - 1 < 780) = True := by apply propext; exact ⟨fun _ => trivial, fun _ => ⟨by omega, by omega⟩⟩
    have b5 : (60 * (r : Int) + ((i + 1 : Nat) : Int) - 1).toNat = 60 * r + i := by omega
    have b6 : ((i + 1 : Nat) : Int) + -1 = i := by omega
    have b7 : zst (psh N (60 * r + n) (60 * r + (i + 1))) (60 * r + i + 1) (psh N (60 * r + n) (60 * r + (i + 1)) (60 * r + i)) = psh N (60 * r + n) (60 * r + i) := psh_step (a := N) (n := 60 * r + n) (i := 60 * r + i) (by omega)
    rw [ze_X10_putAhead_7]
    simp (disch := omega) only [ze_X10_putAhead_0, ze_X10_putAhead_4, ze_X10_putAhead_6, ze_X10_putAhead_11, ze_X10_putAhead_15, ze_X10_putAhead_25, ze_X10_putAhead_34, ze_X10_putAhead_35, ze_X10_putAhead_41, ze_X10_putAhead_45, ze_X10_putAhead_51, ze_X10_putAhead_55, ze_X10_putAhead_58, ze_X10_putAhead_61, zcal_v, zcal_n, zcalI_n, zco_O, zcf_O, zcs_O, zisc_O, zr8_A, zr8_S, zri_A, zri_B, zri_C, zrl_L, zrd_D, zrs_R, zgi_A, zgi_S, zgi_B, zgi_C, zgl_L, zgd_D, zisa_A, zisa_S, zisa_L, zisa_B, zisa_R, zln_A, zln_S, zln_L, zln_B, zln_R, zwi_A, zwl_L, zwd_D, zclr_i, zclr_r, zclr_l, zclr_d, zclr_n, zok_i, zok_l, zok_b0, zok_b1, I_add, I_sub, I_mul, I_neg, J_add, J_sub, J_mul, J_toI, I_ofNat, zib_I, I_cl, I_J, I_ne2, zup_same, zup_up, zup_ne, zc1_eqB, zc1_neB, zc1_eq, zc1_ne, zc1_lt, zc1_ge, zc1_gt, zc1_le, zc2_eq, zc2_ne, zc2_lt, zc2_ge, zc2_gt, zc2_le, lc_eq, lc_ne, lc_ge, lc_le, lc_gt, lc_lt, zret_b, zret_b0, zret_b1, List.getD_cons_zero, List.getD_cons_succ, List.length_cons, List.length_nil, List.set_cons_zero, List.set_cons_succ, Option.toList, List.cons_append, List.nil_append, Int.cast_ofNat_Int, decide_eq_true_eq, Bool.and_eq_true, and_self, true_and, and_true, if_true, if_false, not_true_eq_false, not_false_eq_true, reduceIte, Nat.reduceAdd, Nat.reduceLT, Nat.reduceLeDiff, Nat.reduceEqDiff, Int.reduceAdd, Int.reduceSub, Int.reduceMul, Int.reduceNeg, Int.reduceLT, Int.reduceLE, Int.reduceEq, Int.reduceToNat, Int.toNat_natCast, Nat.lt_add_one, Nat.zero_lt_succ, h, hS, hn, b0, b1, b2, b3, b4, b5, b6, b7]
    exact ih (by omega)
theorem s_X10_putAhead {r n : Nat} (hd : 1 ≤ d) (h : f 266 = some (mo thr ex pc kp fd pl stt te)) (hN : f 280 = some (kA 780 N)) (hS : f 281 = some (kA 13 SZ)) (hr : r < 13) (hn : SZ r = n) (hn2 : n < 60) : zrun zTb d 164 [.ref 266, .int (I r), .int (I x)] f m = some (.inl none, zup (zup f 280 (kA 780 (zst (psh N (60 * r + n) (60 * r)) (60 * r) x))) 281 (kA 13 (zst SZ r ((n : Int) + 1))), m) := by
  obtain ⟨d, rfl⟩ : ∃ e, d = e + 1 := ⟨d - 1, by omega⟩
  have b0 : (0 ≤ (r : Int) ∧ (r : Int) < 13) = True := by apply propext; exact ⟨fun _ => trivial, fun _ => ⟨by omega, by omega⟩⟩
  have := l_X10_putAhead (d := d) (f := f) (m := m) (N := N) (x := x) h hS hr hn hn2 n (by omega)
  rw [psh_n, zup_self hN] at this
  unfold mo at h
  rw [zs_X10_putAhead]
  simp (disch := omega) only [ze_X10_putAhead_0, ze_X10_putAhead_4, ze_X10_putAhead_6, ze_X10_putAhead_11, ze_X10_putAhead_15, ze_X10_putAhead_25, ze_X10_putAhead_34, ze_X10_putAhead_35, ze_X10_putAhead_41, ze_X10_putAhead_45, ze_X10_putAhead_51, ze_X10_putAhead_55, ze_X10_putAhead_58, ze_X10_putAhead_61, zcal_v, zcal_n, zcalI_n, zco_O, zcf_O, zcs_O, zisc_O, zr8_A, zr8_S, zri_A, zri_B, zri_C, zrl_L, zrd_D, zrs_R, zgi_A, zgi_S, zgi_B, zgi_C, zgl_L, zgd_D, zisa_A, zisa_S, zisa_L, zisa_B, zisa_R, zln_A, zln_S, zln_L, zln_B, zln_R, zwi_A, zwl_L, zwd_D, zclr_i, zclr_r, zclr_l, zclr_d, zclr_n, zok_i, zok_l, zok_b0, zok_b1, I_add, I_sub, I_mul, I_neg, J_add, J_sub, J_mul, J_toI, I_ofNat, zib_I, I_cl, I_J, I_ne2, zup_same, zup_up, zup_ne, zc1_eqB, zc1_neB, zc1_eq, zc1_ne, zc1_lt, zc1_ge, zc1_gt, zc1_le, zc2_eq, zc2_ne, zc2_lt, zc2_ge, zc2_gt, zc2_le, lc_eq, lc_ne, lc_ge, lc_le, lc_gt, lc_lt, zret_b, zret_b0, zret_b1, List.getD_cons_zero, List.getD_cons_succ, List.length_cons, List.length_nil, List.set_cons_zero, List.set_cons_succ, Option.toList, List.cons_append, List.nil_append, Int.cast_ofNat_Int, decide_eq_true_eq, Bool.and_eq_true, and_self, true_and, and_true, if_true, if_false, not_true_eq_false, not_false_eq_true, reduceIte, Nat.reduceAdd, Nat.reduceLT, Nat.reduceLeDiff, Nat.reduceEqDiff, Int.reduceAdd, Int.reduceSub, Int.reduceMul, Int.reduceNeg, Int.reduceLT, Int.reduceLE, Int.reduceEq, Int.reduceToNat, Int.toNat_natCast, Nat.lt_add_one, Nat.zero_lt_succ, h, hS, hn, b0]
  exact this
end
