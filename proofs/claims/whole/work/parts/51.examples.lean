/-! SPECS: the examples' tables -/
theorem zc2_neb {g b : Bool} : zc2 .ne (I (if g = true then 1 else 0)) (I (if b = true then 1 else 0)) = decide (¬ g = b) := by cases g <;> cases b <;> decide
/-- the table of the examples ahead of k with a sign -/
def tbv (W a : Nat → Int) (G : Nat → Bool) (R : Nat → Nat) (np : Nat) (b : Bool) : Nat → Nat
  | 0 => 0
  | k + 1 => if G k = b then tbv W a G R np b k ||| (if R k < np ∧ a (R k) = W k then 2 ^ R k else 0) else tbv W a G R np b k
section
variable {d n np p q w : Nat} {f : zF} {m : zM} {W a : Nat → Int} {G : Nat → Bool} {R : Nat → Nat} {b : Bool}
theorem l_X1_tableOf (hd : 3 ≤ d) (he : exs f n W G p q) (hn : n ≤ 10) (hp : f p = some (kO 3 [.ref w, .int (I np)])) (hw : f w = some (kL 60 a)) (hnp : np ≤ 60) (ha : prg a np) (hW : ∀ i, i < n → 0 ≤ W i ∧ W i < 4611686018427387904) (hR : ∀ i, i < n → psp a np (W i) (R i)) : ∀ j i : Nat, i + j = n → zex zTb d zqX1_tableOf 5 [.ref 2, .int (I (if b = true then 1 else 0)), .long (J (tbv W a G R np b i : Nat)), .null, .int (I i)] [] f m = some (.inl (some (.long (J (tbv W a G R np b n : Nat)))), f, m) := by
  obtain ⟨s0, s1, s2⟩ := he
  intro j
  induction j with
  | zero =>
    intro i hi
    obtain rfl : i = n := by omega
    have b1 : ((i : Int) ≤ i) = True := by apply propext; exact ⟨fun _ => trivial, fun _ => by omega⟩
    rw [ze_X1_tableOf_5]
    simp (disch := omega) only [ze_X1_tableOf_0, ze_X1_tableOf_11, ze_X1_tableOf_14, ze_X1_tableOf_18, ze_X1_tableOf_21, ze_X1_tableOf_25, ze_X1_tableOf_30, ze_X1_tableOf_34, ze_X1_tableOf_37, ze_X1_tableOf_40, ze_X1_tableOf_42, ze_X1_tableOf_48, zcal_x, zfh_nil, zfh_cons, zset_0, zset_1, zset_s, zcal_v, zcal_n, zcalI_n, zco_O, zcf_O, zcs_O, zisc_O, zr8_A, zr8_S, zri_A, zri_B, zri_C, zrl_L, zrd_D, zrs_R, zgi_A, zgi_S, zgi_B, zgi_C, zgl_L, zgd_D, zisa_A, zisa_S, zisa_L, zisa_B, zisa_R, zln_A, zln_S, zln_L, zln_B, zln_R, zwi_A, zwl_L, zwd_D, zclr_i, zclr_r, zclr_l, zclr_d, zclr_n, zok_i, zok_l, zok_b0, zok_b1, I_add, I_sub, I_mul, I_neg, J_add, J_sub, J_mul, J_toI, I_ofNat, zib_I, I_cl, I_J, I_ne2, zup_same, zup_up, zup_ne, zc1_eqB, zc1_neB, zc1_eq, zc1_ne, zc1_lt, zc1_ge, zc1_gt, zc1_le, zc2_eq, zc2_ne, zc2_lt, zc2_ge, zc2_gt, zc2_le, lc_eq, lc_ne, lc_ge, lc_le, lc_gt, lc_lt, zret_b, zret_b0, zret_b1, List.getD_cons_zero, List.getD_cons_succ, List.length_cons, List.length_nil, List.set_cons_zero, List.set_cons_succ, Option.toList, List.cons_append, List.nil_append, Int.cast_ofNat_Int, decide_eq_true_eq, Bool.and_eq_true, and_self, true_and, and_true, if_true, if_false, not_true_eq_false, not_false_eq_true, reduceIte, Nat.reduceAdd, Nat.reduceLT, Nat.reduceLeDiff, Nat.reduceEqDiff, Int.reduceAdd, Int.reduceSub, Int.reduceMul, Int.reduceNeg, Int.reduceLT, Int.reduceLE, Int.reduceEq, Int.reduceToNat, Int.toNat_natCast, Nat.lt_add_one, Nat.zero_lt_succ, s0, b1]
  | succ j ih =>
    intro i hi
    have b1 : ((n : Int) ≤ i) = False := by apply propext; exact ⟨fun z => by omega, False.elim⟩
    have b2 : (0 ≤ (i : Int) ∧ (i : Int) < 10) = True := by apply propext; exact ⟨fun _ => trivial, fun _ => ⟨by omega, by omega⟩⟩
    have e1 := s_X3_tableOf (d := d) (f := f) (m := m) hd hp hw hnp ha (hW i (by omega)) (hR i (by omega))
    rw [show (if R i < np ∧ a (R i) = W i then ((2 ^ R i : Nat) : Int) else 0) = ((if R i < np ∧ a (R i) = W i then 2 ^ R i else 0 : Nat) : Int) by split <;> rfl] at e1
    have hi2 := ih (i + 1) (by omega)
    rw [ze_X1_tableOf_5]
    by_cases h : G i = b
    · have b3 : (¬ (if G i = true then (1 : Int) else 0) = if b = true then 1 else 0) = False := by revert h; cases G i <;> cases b <;> simp
      rw [show tbv W a G R np b (i + 1) = tbv W a G R np b i ||| (if R i < np ∧ a (R i) = W i then 2 ^ R i else 0) from if_pos h] at hi2
      simp (disch := omega) only [ze_X1_tableOf_0, ze_X1_tableOf_11, ze_X1_tableOf_14, ze_X1_tableOf_18, ze_X1_tableOf_21, ze_X1_tableOf_25, ze_X1_tableOf_30, ze_X1_tableOf_34, ze_X1_tableOf_37, ze_X1_tableOf_40, ze_X1_tableOf_42, ze_X1_tableOf_48, zcal_x, zfh_nil, zfh_cons, zset_0, zset_1, zset_s, zcal_v, zcal_n, zcalI_n, zco_O, zcf_O, zcs_O, zisc_O, zr8_A, zr8_S, zri_A, zri_B, zri_C, zrl_L, zrd_D, zrs_R, zgi_A, zgi_S, zgi_B, zgi_C, zgl_L, zgd_D, zisa_A, zisa_S, zisa_L, zisa_B, zisa_R, zln_A, zln_S, zln_L, zln_B, zln_R, zwi_A, zwl_L, zwd_D, zclr_i, zclr_r, zclr_l, zclr_d, zclr_n, zok_i, zok_l, zok_b0, zok_b1, I_add, I_sub, I_mul, I_neg, J_add, J_sub, J_mul, J_toI, I_ofNat, zib_I, I_cl, I_J, I_ne2, zup_same, zup_up, zup_ne, zc1_eqB, zc1_neB, zc1_eq, zc1_ne, zc1_lt, zc1_ge, zc1_gt, zc1_le, zc2_eq, zc2_ne, zc2_lt, zc2_ge, zc2_gt, zc2_le, lc_eq, lc_ne, lc_ge, lc_le, lc_gt, lc_lt, zret_b, zret_b0, zret_b1, List.getD_cons_zero, List.getD_cons_succ, List.length_cons, List.length_nil, List.set_cons_zero, List.set_cons_succ, Option.toList, List.cons_append, List.nil_append, Int.cast_ofNat_Int, decide_eq_true_eq, Bool.and_eq_true, and_self, true_and, and_true, if_true, if_false, not_true_eq_false, not_false_eq_true, reduceIte, Nat.reduceAdd, Nat.reduceLT, Nat.reduceLeDiff, Nat.reduceEqDiff, Int.reduceAdd, Int.reduceSub, Int.reduceMul, Int.reduceNeg, Int.reduceLT, Int.reduceLE, Int.reduceEq, Int.reduceToNat, Int.toNat_natCast, Nat.lt_add_one, Nat.zero_lt_succ, s0, s1, s2, hp, b1, b2, b3, e1, J_or]
      exact hi2
    · have b3 : (¬ (if G i = true then (1 : Int) else 0) = if b = true then 1 else 0) = True := by revert h; cases G i <;> cases b <;> simp
      rw [show tbv W a G R np b (i + 1) = tbv W a G R np b i from if_neg h] at hi2
      simp (disch := omega) only [ze_X1_tableOf_0, ze_X1_tableOf_11, ze_X1_tableOf_14, ze_X1_tableOf_18, ze_X1_tableOf_21, ze_X1_tableOf_25, ze_X1_tableOf_30, ze_X1_tableOf_34, ze_X1_tableOf_37, ze_X1_tableOf_40, ze_X1_tableOf_42, ze_X1_tableOf_48, zcal_x, zfh_nil, zfh_cons, zset_0, zset_1, zset_s, zcal_v, zcal_n, zcalI_n, zco_O, zcf_O, zcs_O, zisc_O, zr8_A, zr8_S, zri_A, zri_B, zri_C, zrl_L, zrd_D, zrs_R, zgi_A, zgi_S, zgi_B, zgi_C, zgl_L, zgd_D, zisa_A, zisa_S, zisa_L, zisa_B, zisa_R, zln_A, zln_S, zln_L, zln_B, zln_R, zwi_A, zwl_L, zwd_D, zclr_i, zclr_r, zclr_l, zclr_d, zclr_n, zok_i, zok_l, zok_b0, zok_b1, I_add, I_sub, I_mul, I_neg, J_add, J_sub, J_mul, J_toI, I_ofNat, zib_I, I_cl, I_J, I_ne2, zup_same, zup_up, zup_ne, zc1_eqB, zc1_neB, zc1_eq, zc1_ne, zc1_lt, zc1_ge, zc1_gt, zc1_le, zc2_eq, zc2_ne, zc2_lt, zc2_ge, zc2_gt, zc2_le, lc_eq, lc_ne, lc_ge, lc_le, lc_gt, lc_lt, zret_b, zret_b0, zret_b1, List.getD_cons_zero, List.getD_cons_succ, List.length_cons, List.length_nil, List.set_cons_zero, List.set_cons_succ, Option.toList, List.cons_append, List.nil_append, Int.cast_ofNat_Int, decide_eq_true_eq, Bool.and_eq_true, and_self, true_and, and_true, if_true, if_false, not_true_eq_false, not_false_eq_true, reduceIte, Nat.reduceAdd, Nat.reduceLT, Nat.reduceLeDiff, Nat.reduceEqDiff, Int.reduceAdd, Int.reduceSub, Int.reduceMul, Int.reduceNeg, Int.reduceLT, Int.reduceLE, Int.reduceEq, Int.reduceToNat, Int.toNat_natCast, Nat.lt_add_one, Nat.zero_lt_succ, s0, s1, s2, hp, b1, b2, b3]
      exact hi2
theorem s_X1_tableOf (hd : 4 ≤ d) (he : exs f n W G p q) (hn : n ≤ 10) (hp : f p = some (kO 3 [.ref w, .int (I np)])) (hw : f w = some (kL 60 a)) (hnp : np ≤ 60) (ha : prg a np) (hW : ∀ i, i < n → 0 ≤ W i ∧ W i < 4611686018427387904) (hR : ∀ i, i < n → psp a np (W i) (R i)) : zrun zTb d 9 [.ref 2, .int (I (if b = true then 1 else 0))] f m = some (.inl (some (.long (J (tbv W a G R np b n : Nat)))), f, m) := by
  obtain ⟨d, rfl⟩ : ∃ e, d = e + 1 := ⟨d - 1, by omega⟩
  rw [zs_X1_tableOf]
  simp only [ze_X1_tableOf_0, ze_X1_tableOf_11, ze_X1_tableOf_14, ze_X1_tableOf_18, ze_X1_tableOf_21, ze_X1_tableOf_25, ze_X1_tableOf_30, ze_X1_tableOf_34, ze_X1_tableOf_37, ze_X1_tableOf_40, ze_X1_tableOf_42, ze_X1_tableOf_48, zclr_i]
  exact l_X1_tableOf (by omega) he hn hp hw hnp ha hW hR n 0 (by omega)
end
