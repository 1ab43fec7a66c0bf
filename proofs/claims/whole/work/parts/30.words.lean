/-! SPECS: words -/
theorem zc1_eqB {P : Prop} [Decidable P] : zc1 .eq (I (if P then 1 else 0)) = decide (¬ P) := by
  by_cases h : P
  · rw [if_pos h, decide_eq_false (fun z => z h)]; decide
  · rw [if_neg h, decide_eq_true h]; decide
theorem zc1_neB {P : Prop} [Decidable P] : zc1 .ne (I (if P then 1 else 0)) = decide P := by
  by_cases h : P
  · rw [if_pos h, decide_eq_true h]; decide
  · rw [if_neg h, decide_eq_false h]; decide
theorem zret_b {P : Prop} [Decidable P] : (I (if P then 1 else 0) = 0 ∨ I (if P then 1 else 0) = 1) = True := by
  apply propext
  refine ⟨fun _ => trivial, fun _ => ?_⟩
  by_cases h : P
  · rw [if_pos h]; right; decide
  · rw [if_neg h]; left; decide
theorem zret_b0 : (I 0 = 0 ∨ I 0 = 1) = True := by apply propext; exact ⟨fun _ => trivial, fun _ => Or.inl (by decide)⟩
theorem zret_b1 : (I 1 = 0 ∨ I 1 = 1) = True := by apply propext; exact ⟨fun _ => trivial, fun _ => Or.inr (by decide)⟩
theorem s_X8_isLetter {d : Nat} {f : zF} {m : zM} {x : Int} (h1 : -2147483648 ≤ x) (h2 : x < 2147483648) : zrun zTb (d + 1) 70 [.int (I x)] f m = some (.inl (some (.int (I (if 97 ≤ x ∧ x ≤ 99 then 1 else 0)))), f, m) := by
  rw [zs_X8_isLetter]
  simp (disch := omega) only [ze_X8_isLetter_0, ze_X8_isLetter_6, ze_X8_isLetter_12, ze_X8_isLetter_16, zcal_v, zcal_n, zcalI_n, zco_O, zcf_O, zcs_O, zisc_O, zr8_A, zr8_S, zri_A, zri_B, zri_C, zrl_L, zrd_D, zrs_R, zgi_A, zgi_S, zgi_B, zgi_C, zgl_L, zgd_D, zisa_A, zisa_S, zisa_L, zisa_B, zisa_R, zln_A, zln_S, zln_L, zln_B, zln_R, zwi_A, zwl_L, zwd_D, zclr_i, zclr_r, zclr_l, zclr_d, zclr_n, zok_i, zok_l, zok_b0, zok_b1, I_add, I_sub, I_mul, I_neg, J_add, J_sub, J_mul, J_toI, I_ofNat, zib_I, I_cl, I_J, I_ne2, zup_same, zup_up, zc1_eqB, zc1_neB, zc1_eq, zc1_ne, zc1_lt, zc1_ge, zc1_gt, zc1_le, zc2_eq, zc2_ne, zc2_lt, zc2_ge, zc2_gt, zc2_le, lc_eq, lc_ne, lc_ge, lc_le, lc_gt, lc_lt, zret_b, zret_b0, zret_b1, List.getD_cons_zero, List.getD_cons_succ, List.length_cons, List.length_nil, List.set_cons_zero, List.set_cons_succ, Option.toList, List.cons_append, List.nil_append, decide_eq_true_eq, Bool.and_eq_true, and_self, true_and, and_true, if_true, if_false, not_true_eq_false, not_false_eq_true, reduceIte, Nat.reduceAdd, Nat.reduceLT, Nat.reduceLeDiff, Nat.reduceEqDiff, Int.reduceAdd, Int.reduceSub, Int.reduceMul, Int.reduceNeg, Int.reduceLT, Int.reduceLE, Int.reduceEq, Int.reduceToNat, Int.toNat_natCast, Nat.lt_add_one, Nat.zero_lt_succ]
  by_cases h3 : x < 97
  · rw [if_pos h3, if_neg (by omega)]
  · rw [if_neg h3]
    by_cases h4 : 99 < x
    · rw [if_pos h4, if_neg (by omega)]
    · rw [if_neg h4, if_pos (by omega)]
section
variable {d p w : Nat} {f : zF} {m : zM} {a : Nat → Int} {n : Nat}
theorem s_X3_has {j : Int} (hp : f p = some (kO 3 [.ref w, .int (I n)])) (hw : f w = some (kL 60 a)) (hn : n ≤ 60) (h1 : -2147483648 ≤ j) (h2 : j < 2147483648) : zrun zTb (d + 1) 25 [.ref p, .int (I j)] f m = some (.inl (some (.int (I (if 0 ≤ j ∧ j < n then 1 else 0)))), f, m) := by
  rw [zs_X3_has]
  simp (disch := omega) only [ze_X3_has_0, ze_X3_has_4, ze_X3_has_9, ze_X3_has_12, ze_X3_has_17, ze_X3_has_18, ze_X3_has_21, ze_X3_has_25, zcal_v, zcal_n, zcalI_n, zco_O, zcf_O, zcs_O, zisc_O, zr8_A, zr8_S, zri_A, zri_B, zri_C, zrl_L, zrd_D, zrs_R, zgi_A, zgi_S, zgi_B, zgi_C, zgl_L, zgd_D, zisa_A, zisa_S, zisa_L, zisa_B, zisa_R, zln_A, zln_S, zln_L, zln_B, zln_R, zwi_A, zwl_L, zwd_D, zclr_i, zclr_r, zclr_l, zclr_d, zclr_n, zok_i, zok_l, zok_b0, zok_b1, I_add, I_sub, I_mul, I_neg, J_add, J_sub, J_mul, J_toI, I_ofNat, zib_I, I_cl, I_J, I_ne2, zup_same, zup_up, zc1_eqB, zc1_neB, zc1_eq, zc1_ne, zc1_lt, zc1_ge, zc1_gt, zc1_le, zc2_eq, zc2_ne, zc2_lt, zc2_ge, zc2_gt, zc2_le, lc_eq, lc_ne, lc_ge, lc_le, lc_gt, lc_lt, zret_b, zret_b0, zret_b1, List.getD_cons_zero, List.getD_cons_succ, List.length_cons, List.length_nil, List.set_cons_zero, List.set_cons_succ, Option.toList, List.cons_append, List.nil_append, decide_eq_true_eq, Bool.and_eq_true, and_self, true_and, and_true, if_true, if_false, not_true_eq_false, not_false_eq_true, reduceIte, Nat.reduceAdd, Nat.reduceLT, Nat.reduceLeDiff, Nat.reduceEqDiff, Int.reduceAdd, Int.reduceSub, Int.reduceMul, Int.reduceNeg, Int.reduceLT, Int.reduceLE, Int.reduceEq, Int.reduceToNat, Int.toNat_natCast, Nat.lt_add_one, Nat.zero_lt_succ, hp, hw]
  by_cases h3 : j < 0
  · rw [if_pos h3, if_neg (by omega)]
  · rw [if_neg h3]
    by_cases h4 : (n : Int) ≤ j
    · rw [if_pos h4, if_neg (by omega)]
    · rw [if_neg h4, if_neg (by omega), if_pos (by omega)]
end
