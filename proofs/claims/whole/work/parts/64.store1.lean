/-! SPECS: rows of cuts; slots -/
theorem tb_t {x i : Nat} (h : x.testBit i = true) : x / 2 ^ i % 2 = 1 := by
  rw [Nat.testBit_eq_decide_div_mod_eq, decide_eq_true_eq] at h; exact h
theorem tb_f {x i : Nat} (h : ¬ x.testBit i = true) : x / 2 ^ i % 2 = 0 := (tb_0 x i).mpr h
theorem zst_cast (F : Nat → Nat) (n a : Nat) : zst (fun c => (F c : Int)) n (a : Int) = fun x => ((zst F n a x : Nat) : Int) := by
  funext x
  unfold zst
  split <;> rfl
theorem bit60 {k : Nat} (h : k < 60) : 2 ^ k < 1152921504606846976 := Nat.lt_of_lt_of_le (Nat.pow_lt_pow_right (by omega) h) (Nat.le_refl _)
section
variable {d r np cn : Nat} {f : zF} {m : zM} {P : Nat → List Nat} {Q : Nat → Int} {T : Nat} {FR BK WH : Nat → Nat}
theorem fr_z (h : r < 141 ∨ 144 < r) {a1 a2 : Value} : ∀ j i : Nat, i + j = 60 → zex zTb d zqX0_fillRow 3 [.ref 141, a1, a2, .ref r, .int (I i), .null] [] (zup f r (kL 60 (pcp (fun _ => 0) Q i))) m = zex zTb d zqX0_fillRow 24 [.ref 141, a1, a2, .ref r, .int (I 0), .null] [] (zup f r (kL 60 (pcp (fun _ => 0) Q 60))) m := by
  intro j
  induction j with
  | zero =>
    intro i hi
    obtain rfl : i = 60 := by omega
    rw [ze_X0_fillRow_3]
    simp (disch := omega) only [ze_X0_fillRow_0, ze_X0_fillRow_7, ze_X0_fillRow_10, ze_X0_fillRow_15, ze_X0_fillRow_21, ze_X0_fillRow_30, ze_X0_fillRow_33, ze_X0_fillRow_37, ze_X0_fillRow_40, ze_X0_fillRow_47, ze_X0_fillRow_50, ze_X0_fillRow_58, ze_X0_fillRow_63, ze_X0_fillRow_67, ze_X0_fillRow_70, ze_X0_fillRow_75, ze_X0_fillRow_80, ze_X0_fillRow_83, ze_X0_fillRow_86, ze_X0_fillRow_92, zcal_x, zfh_nil, zfh_cons, zset_0, zset_1, zset_s, zcal_v, zcal_n, zcalI_n, zco_O, zcf_O, zcs_O, zisc_O, zr8_A, zr8_S, zri_A, zri_B, zri_C, zrl_L, zrd_D, zrs_R, zgi_A, zgi_S, zgi_B, zgi_C, zgl_L, zgd_D, zisa_A, zisa_S, zisa_L, zisa_B, zisa_R, zln_A, zln_S, zln_L, zln_B, zln_R, zwi_A, zwl_L, zwd_D, zclr_i, zclr_r, zclr_l, zclr_d, zclr_n, zok_i, zok_l, zok_b0, zok_b1, I_add, I_sub, I_mul, I_neg, J_add, J_sub, J_mul, J_toI, I_ofNat, I_cl, I_J, I_ne2, zup_same, zup_up, zup_ne, zc1_eqB, zc1_neB, zret_b, zret_b0, zret_b1, List.getD_cons_zero, List.getD_cons_succ, List.length_cons, List.length_nil, List.set_cons_zero, List.set_cons_succ, Option.toList, List.cons_append, List.nil_append, Int.cast_ofNat_Int, decide_eq_true_eq, Bool.and_eq_true, and_self, true_and, and_true, if_true, if_false, not_true_eq_false, not_false_eq_true, ↓reduceIte, Nat.reduceAdd, Nat.reduceLT, Nat.reduceLeDiff, Nat.reduceEqDiff, Int.reduceAdd, Int.reduceSub, Int.reduceMul, Int.reduceNeg, Int.reduceLT, Int.reduceLE, Int.reduceEq, Int.reduceToNat, Int.toNat_natCast, Nat.lt_add_one, Nat.zero_lt_succ, q1_eq_t, q1_eq_f, q2_eq_t, q2_eq_f, ql_eq_t, ql_eq_f, q1_ne_t, q1_ne_f, q2_ne_t, q2_ne_f, ql_ne_t, ql_ne_f, q1_lt_t, q1_lt_f, q2_lt_t, q2_lt_f, ql_lt_t, ql_lt_f, q1_ge_t, q1_ge_f, q2_ge_t, q2_ge_f, ql_ge_t, ql_ge_f, q1_gt_t, q1_gt_f, q2_gt_t, q2_gt_f, ql_gt_t, ql_gt_f, q1_le_t, q1_le_f, q2_le_t, q2_le_f, ql_le_t, ql_le_f, zib_t, qb_t, qb_f, nk_add, nk_mul, nk_sub, nk_d1, nk_d0, nk_toNat, nk_r1, nk_l1, nk_m1, nk_n1, nk_s1, nk_t1, nk_r2, nk_l2, nk_m2, nk_n2, nk_s2, nk_t2, nk_r3, nk_l3, nk_m3, nk_n3, nk_s3, nk_t3, nk_r4, nk_l4, nk_m4, nk_n4, nk_s4, nk_t4, nk_r6, nk_l6, nk_m6, nk_n6, nk_s6, nk_t6, nk_r7, nk_l7, nk_m7, nk_n7, nk_s7, nk_t7, nk_r8, nk_l8, nk_m8, nk_n8, nk_s8, nk_t8, nk_r12, nk_l12, nk_m12, nk_n12, nk_s12, nk_t12, nk_r31, nk_l31, nk_m31, nk_n31, nk_s31, nk_t31, nk_r32, nk_l32, nk_m32, nk_n32, nk_s32, nk_t32, nk_r59, nk_l59, nk_m59, nk_n59, nk_s59, nk_t59, nk_r60, nk_l60, nk_m60, nk_n60, nk_s60, nk_t60, nk_r96, nk_l96, nk_m96, nk_n96, nk_s96, nk_t96, nk_r97, nk_l97, nk_m97, nk_n97, nk_s97, nk_t97, nk_r120, nk_l120, nk_m120, nk_n120, nk_s120, nk_t120, nk_r240, nk_l240, nk_m240, nk_n240, nk_s240, nk_t240, nk_r255, nk_l255, nk_m255, nk_n255, nk_s255, nk_t255, nk_r256, nk_l256, nk_m256, nk_n256, nk_s256, nk_t256, Nat.add_zero, Nat.zero_add, Nat.mul_one, Nat.one_mul, Nat.mul_zero, Nat.zero_mul, Nat.sub_zero, Nat.reduceSub, Nat.reduceMul, Nat.add_sub_cancel, Bool.false_eq_true, Int.add_zero, Int.zero_add, Int.sub_zero]
  | succ j ih =>
    intro i hi
    have := pcp_step (b := fun _ => 0) (a := Q) (i := i)
    rw [ze_X0_fillRow_3]
    refine Eq.trans ?_ (ih (i + 1) (by omega))
    simp (disch := omega) only [ze_X0_fillRow_0, ze_X0_fillRow_7, ze_X0_fillRow_10, ze_X0_fillRow_15, ze_X0_fillRow_21, ze_X0_fillRow_30, ze_X0_fillRow_33, ze_X0_fillRow_37, ze_X0_fillRow_40, ze_X0_fillRow_47, ze_X0_fillRow_50, ze_X0_fillRow_58, ze_X0_fillRow_63, ze_X0_fillRow_67, ze_X0_fillRow_70, ze_X0_fillRow_75, ze_X0_fillRow_80, ze_X0_fillRow_83, ze_X0_fillRow_86, ze_X0_fillRow_92, zcal_x, zfh_nil, zfh_cons, zset_0, zset_1, zset_s, zcal_v, zcal_n, zcalI_n, zco_O, zcf_O, zcs_O, zisc_O, zr8_A, zr8_S, zri_A, zri_B, zri_C, zrl_L, zrd_D, zrs_R, zgi_A, zgi_S, zgi_B, zgi_C, zgl_L, zgd_D, zisa_A, zisa_S, zisa_L, zisa_B, zisa_R, zln_A, zln_S, zln_L, zln_B, zln_R, zwi_A, zwl_L, zwd_D, zclr_i, zclr_r, zclr_l, zclr_d, zclr_n, zok_i, zok_l, zok_b0, zok_b1, I_add, I_sub, I_mul, I_neg, J_add, J_sub, J_mul, J_toI, I_ofNat, I_cl, I_J, I_ne2, zup_same, zup_up, zup_ne, zc1_eqB, zc1_neB, zret_b, zret_b0, zret_b1, List.getD_cons_zero, List.getD_cons_succ, List.length_cons, List.length_nil, List.set_cons_zero, List.set_cons_succ, Option.toList, List.cons_append, List.nil_append, Int.cast_ofNat_Int, decide_eq_true_eq, Bool.and_eq_true, and_self, true_and, and_true, if_true, if_false, not_true_eq_false, not_false_eq_true, ↓reduceIte, Nat.reduceAdd, Nat.reduceLT, Nat.reduceLeDiff, Nat.reduceEqDiff, Int.reduceAdd, Int.reduceSub, Int.reduceMul, Int.reduceNeg, Int.reduceLT, Int.reduceLE, Int.reduceEq, Int.reduceToNat, Int.toNat_natCast, Nat.lt_add_one, Nat.zero_lt_succ, q1_eq_t, q1_eq_f, q2_eq_t, q2_eq_f, ql_eq_t, ql_eq_f, q1_ne_t, q1_ne_f, q2_ne_t, q2_ne_f, ql_ne_t, ql_ne_f, q1_lt_t, q1_lt_f, q2_lt_t, q2_lt_f, ql_lt_t, ql_lt_f, q1_ge_t, q1_ge_f, q2_ge_t, q2_ge_f, ql_ge_t, ql_ge_f, q1_gt_t, q1_gt_f, q2_gt_t, q2_gt_f, ql_gt_t, ql_gt_f, q1_le_t, q1_le_f, q2_le_t, q2_le_f, ql_le_t, ql_le_f, zib_t, qb_t, qb_f, nk_add, nk_mul, nk_sub, nk_d1, nk_d0, nk_toNat, nk_r1, nk_l1, nk_m1, nk_n1, nk_s1, nk_t1, nk_r2, nk_l2, nk_m2, nk_n2, nk_s2, nk_t2, nk_r3, nk_l3, nk_m3, nk_n3, nk_s3, nk_t3, nk_r4, nk_l4, nk_m4, nk_n4, nk_s4, nk_t4, nk_r6, nk_l6, nk_m6, nk_n6, nk_s6, nk_t6, nk_r7, nk_l7, nk_m7, nk_n7, nk_s7, nk_t7, nk_r8, nk_l8, nk_m8, nk_n8, nk_s8, nk_t8, nk_r12, nk_l12, nk_m12, nk_n12, nk_s12, nk_t12, nk_r31, nk_l31, nk_m31, nk_n31, nk_s31, nk_t31, nk_r32, nk_l32, nk_m32, nk_n32, nk_s32, nk_t32, nk_r59, nk_l59, nk_m59, nk_n59, nk_s59, nk_t59, nk_r60, nk_l60, nk_m60, nk_n60, nk_s60, nk_t60, nk_r96, nk_l96, nk_m96, nk_n96, nk_s96, nk_t96, nk_r97, nk_l97, nk_m97, nk_n97, nk_s97, nk_t97, nk_r120, nk_l120, nk_m120, nk_n120, nk_s120, nk_t120, nk_r240, nk_l240, nk_m240, nk_n240, nk_s240, nk_t240, nk_r255, nk_l255, nk_m255, nk_n255, nk_s255, nk_t255, nk_r256, nk_l256, nk_m256, nk_n256, nk_s256, nk_t256, Nat.add_zero, Nat.zero_add, Nat.mul_one, Nat.one_mul, Nat.mul_zero, Nat.zero_mul, Nat.sub_zero, Nat.reduceSub, Nat.reduceMul, Nat.add_sub_cancel, Bool.false_eq_true, Int.add_zero, Int.zero_add, Int.sub_zero, this]
theorem fr_l (hr : r < 141 ∨ 144 < r) (c1 : f 141 = some (kO 0 [.ref 142, .ref 143, .ref 144, .int (I cn)])) (c2 : f 142 = some (kA 420 (fun c => (FR c : Int)))) (c3 : f 143 = some (kA 420 (fun c => (BK c : Int)))) (c4 : f 144 = some (kA 420 (fun c => (WH c : Int)))) (hcn : cn ≤ 420) (hb : ∀ c, c < cn → FR c < 60 ∧ BK c < 60 ∧ WH c < 60) (hT : T < 1152921504606846976) : ∀ (j c : Nat) (Q : Nat → Int) (R : Nat → Nat) (a5 : Value), c + j = cn → (∀ i, i < 60 → Q i = (R i : Int) ∧ R i < 1152921504606846976) → (∀ i, i < 60 → ∀ w, (R i).testBit w = true ↔ ∃ x, x < c ∧ FR x = i ∧ WH x = w ∧ T.testBit (BK x) = true) → ∃ (Q' : Nat → Int) (R' : Nat → Nat), zex zTb d zqX0_fillRow 24 [.ref 141, .long (J T), .null, .ref r, .int (I c), a5] [] (zup f r (kL 60 Q)) m = some (.inl none, zup f r (kL 60 Q'), m) ∧ (∀ i, i < 60 → Q' i = (R' i : Int) ∧ R' i < 1152921504606846976) ∧ (∀ i, i < 60 → ∀ w, (R' i).testBit w = true ↔ ∃ x, x < cn ∧ FR x = i ∧ WH x = w ∧ T.testBit (BK x) = true) := by
  intro j
  induction j with
  | zero =>
    intro c Q R a5 hc hQ hR
    obtain rfl : c = cn := by omega
    refine ⟨Q, R, ?_, hQ, hR⟩
    rw [ze_X0_fillRow_24]
    simp (disch := omega) only [ze_X0_fillRow_0, ze_X0_fillRow_7, ze_X0_fillRow_10, ze_X0_fillRow_15, ze_X0_fillRow_21, ze_X0_fillRow_30, ze_X0_fillRow_33, ze_X0_fillRow_37, ze_X0_fillRow_40, ze_X0_fillRow_47, ze_X0_fillRow_50, ze_X0_fillRow_58, ze_X0_fillRow_63, ze_X0_fillRow_67, ze_X0_fillRow_70, ze_X0_fillRow_75, ze_X0_fillRow_80, ze_X0_fillRow_83, ze_X0_fillRow_86, ze_X0_fillRow_92, zcal_x, zfh_nil, zfh_cons, zset_0, zset_1, zset_s, zcal_v, zcal_n, zcalI_n, zco_O, zcf_O, zcs_O, zisc_O, zr8_A, zr8_S, zri_A, zri_B, zri_C, zrl_L, zrd_D, zrs_R, zgi_A, zgi_S, zgi_B, zgi_C, zgl_L, zgd_D, zisa_A, zisa_S, zisa_L, zisa_B, zisa_R, zln_A, zln_S, zln_L, zln_B, zln_R, zwi_A, zwl_L, zwd_D, zclr_i, zclr_r, zclr_l, zclr_d, zclr_n, zok_i, zok_l, zok_b0, zok_b1, I_add, I_sub, I_mul, I_neg, J_add, J_sub, J_mul, J_toI, I_ofNat, I_cl, I_J, I_ne2, zup_same, zup_up, zup_ne, zc1_eqB, zc1_neB, zret_b, zret_b0, zret_b1, List.getD_cons_zero, List.getD_cons_succ, List.length_cons, List.length_nil, List.set_cons_zero, List.set_cons_succ, Option.toList, List.cons_append, List.nil_append, Int.cast_ofNat_Int, decide_eq_true_eq, Bool.and_eq_true, and_self, true_and, and_true, if_true, if_false, not_true_eq_false, not_false_eq_true, ↓reduceIte, Nat.reduceAdd, Nat.reduceLT, Nat.reduceLeDiff, Nat.reduceEqDiff, Int.reduceAdd, Int.reduceSub, Int.reduceMul, Int.reduceNeg, Int.reduceLT, Int.reduceLE, Int.reduceEq, Int.reduceToNat, Int.toNat_natCast, Nat.lt_add_one, Nat.zero_lt_succ, q1_eq_t, q1_eq_f, q2_eq_t, q2_eq_f, ql_eq_t, ql_eq_f, q1_ne_t, q1_ne_f, q2_ne_t, q2_ne_f, ql_ne_t, ql_ne_f, q1_lt_t, q1_lt_f, q2_lt_t, q2_lt_f, ql_lt_t, ql_lt_f, q1_ge_t, q1_ge_f, q2_ge_t, q2_ge_f, ql_ge_t, ql_ge_f, q1_gt_t, q1_gt_f, q2_gt_t, q2_gt_f, ql_gt_t, ql_gt_f, q1_le_t, q1_le_f, q2_le_t, q2_le_f, ql_le_t, ql_le_f, zib_t, qb_t, qb_f, nk_add, nk_mul, nk_sub, nk_d1, nk_d0, nk_toNat, nk_r1, nk_l1, nk_m1, nk_n1, nk_s1, nk_t1, nk_r2, nk_l2, nk_m2, nk_n2, nk_s2, nk_t2, nk_r3, nk_l3, nk_m3, nk_n3, nk_s3, nk_t3, nk_r4, nk_l4, nk_m4, nk_n4, nk_s4, nk_t4, nk_r6, nk_l6, nk_m6, nk_n6, nk_s6, nk_t6, nk_r7, nk_l7, nk_m7, nk_n7, nk_s7, nk_t7, nk_r8, nk_l8, nk_m8, nk_n8, nk_s8, nk_t8, nk_r12, nk_l12, nk_m12, nk_n12, nk_s12, nk_t12, nk_r31, nk_l31, nk_m31, nk_n31, nk_s31, nk_t31, nk_r32, nk_l32, nk_m32, nk_n32, nk_s32, nk_t32, nk_r59, nk_l59, nk_m59, nk_n59, nk_s59, nk_t59, nk_r60, nk_l60, nk_m60, nk_n60, nk_s60, nk_t60, nk_r96, nk_l96, nk_m96, nk_n96, nk_s96, nk_t96, nk_r97, nk_l97, nk_m97, nk_n97, nk_s97, nk_t97, nk_r120, nk_l120, nk_m120, nk_n120, nk_s120, nk_t120, nk_r240, nk_l240, nk_m240, nk_n240, nk_s240, nk_t240, nk_r255, nk_l255, nk_m255, nk_n255, nk_s255, nk_t255, nk_r256, nk_l256, nk_m256, nk_n256, nk_s256, nk_t256, Nat.add_zero, Nat.zero_add, Nat.mul_one, Nat.one_mul, Nat.mul_zero, Nat.zero_mul, Nat.sub_zero, Nat.reduceSub, Nat.reduceMul, Nat.add_sub_cancel, Bool.false_eq_true, Int.add_zero, Int.zero_add, Int.sub_zero, c1]
  | succ j ih =>
    intro c Q R a5 hc hQ hR
    obtain ⟨b1, b2, b3⟩ := hb c (by omega)
    obtain ⟨q1, q2⟩ := hQ (FR c) b1
    have g1 := bit60 b3
    by_cases ht : T.testBit (BK c) = true
    · have k1 := tb_t ht
      have hor : R (FR c) ||| 2 ^ WH c < 1152921504606846976 := Nat.or_lt_two_pow (n := 60) q2 g1
      obtain ⟨Q', R', i1, i2, i3⟩ := ih (c + 1) (zst Q (FR c) ((R (FR c) ||| 2 ^ WH c : Nat) : Int)) (zst R (FR c) (R (FR c) ||| 2 ^ WH c)) (.int (I (FR c))) (by omega) (by
        intro i hi
        by_cases hif : i = FR c
        · subst hif; rw [zst_same, zst_same]; exact ⟨rfl, hor⟩
        · rw [zst_ne hif, zst_ne hif]; exact hQ i hi) (by
        intro i hi w
        by_cases hif : i = FR c
        · subst hif
          rw [zst_same, Nat.testBit_or, Bool.or_eq_true, hR _ hi, Nat.testBit_two_pow, decide_eq_true_eq]
          constructor
          · rintro (⟨x, h1, h2⟩ | h1)
            · exact ⟨x, by omega, h2⟩
            · exact ⟨c, by omega, rfl, h1, ht⟩
          · rintro ⟨x, h1, h2, h3, h4⟩
            by_cases hx : x = c
            · subst hx; exact Or.inr h3
            · exact Or.inl ⟨x, by omega, h2, h3, h4⟩
        · rw [zst_ne hif, hR i hi]
          constructor
          · rintro ⟨x, h1, h2⟩; exact ⟨x, by omega, h2⟩
          · rintro ⟨x, h1, h2, h3, h4⟩
            by_cases hx : x = c
            · subst hx; exact absurd h2.symm hif
            · exact ⟨x, by omega, h2, h3, h4⟩)
      refine ⟨Q', R', ?_, i2, i3⟩
      rw [ze_X0_fillRow_24]
      refine Eq.trans ?_ i1
      simp (disch := omega) only [ze_X0_fillRow_0, ze_X0_fillRow_7, ze_X0_fillRow_10, ze_X0_fillRow_15, ze_X0_fillRow_21, ze_X0_fillRow_30, ze_X0_fillRow_33, ze_X0_fillRow_37, ze_X0_fillRow_40, ze_X0_fillRow_47, ze_X0_fillRow_50, ze_X0_fillRow_58, ze_X0_fillRow_63, ze_X0_fillRow_67, ze_X0_fillRow_70, ze_X0_fillRow_75, ze_X0_fillRow_80, ze_X0_fillRow_83, ze_X0_fillRow_86, ze_X0_fillRow_92, zcal_x, zfh_nil, zfh_cons, zset_0, zset_1, zset_s, zcal_v, zcal_n, zcalI_n, zco_O, zcf_O, zcs_O, zisc_O, zr8_A, zr8_S, zri_A, zri_B, zri_C, zrl_L, zrd_D, zrs_R, zgi_A, zgi_S, zgi_B, zgi_C, zgl_L, zgd_D, zisa_A, zisa_S, zisa_L, zisa_B, zisa_R, zln_A, zln_S, zln_L, zln_B, zln_R, zwi_A, zwl_L, zwd_D, zclr_i, zclr_r, zclr_l, zclr_d, zclr_n, zok_i, zok_l, zok_b0, zok_b1, I_add, I_sub, I_mul, I_neg, J_add, J_sub, J_mul, J_toI, I_ofNat, I_cl, I_J, I_ne2, zup_same, zup_up, zup_ne, zc1_eqB, zc1_neB, zret_b, zret_b0, zret_b1, List.getD_cons_zero, List.getD_cons_succ, List.length_cons, List.length_nil, List.set_cons_zero, List.set_cons_succ, Option.toList, List.cons_append, List.nil_append, Int.cast_ofNat_Int, decide_eq_true_eq, Bool.and_eq_true, and_self, true_and, and_true, if_true, if_false, not_true_eq_false, not_false_eq_true, ↓reduceIte, Nat.reduceAdd, Nat.reduceLT, Nat.reduceLeDiff, Nat.reduceEqDiff, Int.reduceAdd, Int.reduceSub, Int.reduceMul, Int.reduceNeg, Int.reduceLT, Int.reduceLE, Int.reduceEq, Int.reduceToNat, Int.toNat_natCast, Nat.lt_add_one, Nat.zero_lt_succ, q1_eq_t, q1_eq_f, q2_eq_t, q2_eq_f, ql_eq_t, ql_eq_f, q1_ne_t, q1_ne_f, q2_ne_t, q2_ne_f, ql_ne_t, ql_ne_f, q1_lt_t, q1_lt_f, q2_lt_t, q2_lt_f, ql_lt_t, ql_lt_f, q1_ge_t, q1_ge_f, q2_ge_t, q2_ge_f, ql_ge_t, ql_ge_f, q1_gt_t, q1_gt_f, q2_gt_t, q2_gt_f, ql_gt_t, ql_gt_f, q1_le_t, q1_le_f, q2_le_t, q2_le_f, ql_le_t, ql_le_f, zib_t, qb_t, qb_f, nk_add, nk_mul, nk_sub, nk_d1, nk_d0, nk_toNat, nk_r1, nk_l1, nk_m1, nk_n1, nk_s1, nk_t1, nk_r2, nk_l2, nk_m2, nk_n2, nk_s2, nk_t2, nk_r3, nk_l3, nk_m3, nk_n3, nk_s3, nk_t3, nk_r4, nk_l4, nk_m4, nk_n4, nk_s4, nk_t4, nk_r6, nk_l6, nk_m6, nk_n6, nk_s6, nk_t6, nk_r7, nk_l7, nk_m7, nk_n7, nk_s7, nk_t7, nk_r8, nk_l8, nk_m8, nk_n8, nk_s8, nk_t8, nk_r12, nk_l12, nk_m12, nk_n12, nk_s12, nk_t12, nk_r31, nk_l31, nk_m31, nk_n31, nk_s31, nk_t31, nk_r32, nk_l32, nk_m32, nk_n32, nk_s32, nk_t32, nk_r59, nk_l59, nk_m59, nk_n59, nk_s59, nk_t59, nk_r60, nk_l60, nk_m60, nk_n60, nk_s60, nk_t60, nk_r96, nk_l96, nk_m96, nk_n96, nk_s96, nk_t96, nk_r97, nk_l97, nk_m97, nk_n97, nk_s97, nk_t97, nk_r120, nk_l120, nk_m120, nk_n120, nk_s120, nk_t120, nk_r240, nk_l240, nk_m240, nk_n240, nk_s240, nk_t240, nk_r255, nk_l255, nk_m255, nk_n255, nk_s255, nk_t255, nk_r256, nk_l256, nk_m256, nk_n256, nk_s256, nk_t256, Nat.add_zero, Nat.zero_add, Nat.mul_one, Nat.one_mul, Nat.mul_zero, Nat.zero_mul, Nat.sub_zero, Nat.reduceSub, Nat.reduceMul, Nat.add_sub_cancel, Bool.false_eq_true, Int.add_zero, Int.zero_add, Int.sub_zero, c1, c2, c3, c4, J_ushrI, J_and1, k1, q1, J_shl1, J_or]
    · have k1 := tb_f ht
      obtain ⟨Q', R', i1, i2, i3⟩ := ih (c + 1) Q R (.int (I (FR c))) (by omega) hQ (by
        intro i hi w
        rw [hR i hi]
        constructor
        · rintro ⟨x, h1, h2⟩; exact ⟨x, by omega, h2⟩
        · rintro ⟨x, h1, h2, h3, h4⟩
          by_cases hx : x = c
          · subst hx; exact absurd h4 ht
          · exact ⟨x, by omega, h2, h3, h4⟩)
      refine ⟨Q', R', ?_, i2, i3⟩
      rw [ze_X0_fillRow_24]
      refine Eq.trans ?_ i1
      simp (disch := omega) only [ze_X0_fillRow_0, ze_X0_fillRow_7, ze_X0_fillRow_10, ze_X0_fillRow_15, ze_X0_fillRow_21, ze_X0_fillRow_30, ze_X0_fillRow_33, ze_X0_fillRow_37, ze_X0_fillRow_40, ze_X0_fillRow_47, ze_X0_fillRow_50, ze_X0_fillRow_58, ze_X0_fillRow_63, ze_X0_fillRow_67, ze_X0_fillRow_70, ze_X0_fillRow_75, ze_X0_fillRow_80, ze_X0_fillRow_83, ze_X0_fillRow_86, ze_X0_fillRow_92, zcal_x, zfh_nil, zfh_cons, zset_0, zset_1, zset_s, zcal_v, zcal_n, zcalI_n, zco_O, zcf_O, zcs_O, zisc_O, zr8_A, zr8_S, zri_A, zri_B, zri_C, zrl_L, zrd_D, zrs_R, zgi_A, zgi_S, zgi_B, zgi_C, zgl_L, zgd_D, zisa_A, zisa_S, zisa_L, zisa_B, zisa_R, zln_A, zln_S, zln_L, zln_B, zln_R, zwi_A, zwl_L, zwd_D, zclr_i, zclr_r, zclr_l, zclr_d, zclr_n, zok_i, zok_l, zok_b0, zok_b1, I_add, I_sub, I_mul, I_neg, J_add, J_sub, J_mul, J_toI, I_ofNat, I_cl, I_J, I_ne2, zup_same, zup_up, zup_ne, zc1_eqB, zc1_neB, zret_b, zret_b0, zret_b1, List.getD_cons_zero, List.getD_cons_succ, List.length_cons, List.length_nil, List.set_cons_zero, List.set_cons_succ, Option.toList, List.cons_append, List.nil_append, Int.cast_ofNat_Int, decide_eq_true_eq, Bool.and_eq_true, and_self, true_and, and_true, if_true, if_false, not_true_eq_false, not_false_eq_true, ↓reduceIte, Nat.reduceAdd, Nat.reduceLT, Nat.reduceLeDiff, Nat.reduceEqDiff, Int.reduceAdd, Int.reduceSub, Int.reduceMul, Int.reduceNeg, Int.reduceLT, Int.reduceLE, Int.reduceEq, Int.reduceToNat, Int.toNat_natCast, Nat.lt_add_one, Nat.zero_lt_succ, q1_eq_t, q1_eq_f, q2_eq_t, q2_eq_f, ql_eq_t, ql_eq_f, q1_ne_t, q1_ne_f, q2_ne_t, q2_ne_f, ql_ne_t, ql_ne_f, q1_lt_t, q1_lt_f, q2_lt_t, q2_lt_f, ql_lt_t, ql_lt_f, q1_ge_t, q1_ge_f, q2_ge_t, q2_ge_f, ql_ge_t, ql_ge_f, q1_gt_t, q1_gt_f, q2_gt_t, q2_gt_f, ql_gt_t, ql_gt_f, q1_le_t, q1_le_f, q2_le_t, q2_le_f, ql_le_t, ql_le_f, zib_t, qb_t, qb_f, nk_add, nk_mul, nk_sub, nk_d1, nk_d0, nk_toNat, nk_r1, nk_l1, nk_m1, nk_n1, nk_s1, nk_t1, nk_r2, nk_l2, nk_m2, nk_n2, nk_s2, nk_t2, nk_r3, nk_l3, nk_m3, nk_n3, nk_s3, nk_t3, nk_r4, nk_l4, nk_m4, nk_n4, nk_s4, nk_t4, nk_r6, nk_l6, nk_m6, nk_n6, nk_s6, nk_t6, nk_r7, nk_l7, nk_m7, nk_n7, nk_s7, nk_t7, nk_r8, nk_l8, nk_m8, nk_n8, nk_s8, nk_t8, nk_r12, nk_l12, nk_m12, nk_n12, nk_s12, nk_t12, nk_r31, nk_l31, nk_m31, nk_n31, nk_s31, nk_t31, nk_r32, nk_l32, nk_m32, nk_n32, nk_s32, nk_t32, nk_r59, nk_l59, nk_m59, nk_n59, nk_s59, nk_t59, nk_r60, nk_l60, nk_m60, nk_n60, nk_s60, nk_t60, nk_r96, nk_l96, nk_m96, nk_n96, nk_s96, nk_t96, nk_r97, nk_l97, nk_m97, nk_n97, nk_s97, nk_t97, nk_r120, nk_l120, nk_m120, nk_n120, nk_s120, nk_t120, nk_r240, nk_l240, nk_m240, nk_n240, nk_s240, nk_t240, nk_r255, nk_l255, nk_m255, nk_n255, nk_s255, nk_t255, nk_r256, nk_l256, nk_m256, nk_n256, nk_s256, nk_t256, Nat.add_zero, Nat.zero_add, Nat.mul_one, Nat.one_mul, Nat.mul_zero, Nat.zero_mul, Nat.sub_zero, Nat.reduceSub, Nat.reduceMul, Nat.add_sub_cancel, Bool.false_eq_true, Int.add_zero, Int.zero_add, Int.sub_zero, c1, c2, c3, c4, J_ushrI, J_and1, k1, q1, Int.natCast_zero]
theorem s_fillRow (hd : 1 ≤ d) (hr : r < 141 ∨ 144 < r) (hcu : CUD f P np cn (fun w _ => w < np)) (hcn : cn ≤ 420) (hnp : np ≤ 60) (hP : spc P np) (hq : f r = some (kL 60 Q)) (hT : T < 1152921504606846976) : ∃ (Q' : Nat → Int) (R : Nat → Nat), zrun zTb d 3 [.ref 141, .long (J T), .ref r] f m = some (.inl none, zup f r (kL 60 Q'), m) ∧ (∀ i, i < 60 → Q' i = (R i : Int) ∧ R i < 1152921504606846976) ∧ ∀ i, i < np → ∀ w, (R i).testBit w = true ↔ (w < np ∧ ∃ j, j < np ∧ P w = P i ++ P j ∧ T.testBit j = true) := by
  obtain ⟨d, rfl⟩ : ∃ e, d = e + 1 := ⟨d - 1, by omega⟩
  obtain ⟨FR, BK, WH, c1, c2, c3, c4, c5, c6⟩ := hcu
  have e1 := fr_z (d := d) (m := m) (f := f) (Q := Q) hr (a1 := .long (J T)) (a2 := .null) 60 0 (by omega)
  rw [pcp_zero, zup_self hq] at e1
  obtain ⟨Q', R, i1, i2, i3⟩ := fr_l (d := d) (m := m) (f := f) (T := T) hr c1 c2 c3 c4 hcn (fun c hc => by obtain ⟨g1, g2, g3, -⟩ := c5 c hc; omega) hT cn 0 (pcp (fun _ => 0) Q 60) (fun _ => 0) .null (by omega) (by
    intro i hi
    unfold pcp
    rw [if_pos hi]
    exact ⟨rfl, by omega⟩) (by
    intro i hi w
    rw [Nat.zero_testBit]
    exact ⟨fun h => (by cases h), fun ⟨x, h, _⟩ => by cases h⟩)
  refine ⟨Q', R, ?_, i2, fun i hi w => ?_⟩
  · rw [zs_X0_fillRow]
    refine Eq.trans (Eq.trans ?_ e1) i1
    simp (disch := omega) only [ze_X0_fillRow_0, ze_X0_fillRow_7, ze_X0_fillRow_10, ze_X0_fillRow_15, ze_X0_fillRow_21, ze_X0_fillRow_30, ze_X0_fillRow_33, ze_X0_fillRow_37, ze_X0_fillRow_40, ze_X0_fillRow_47, ze_X0_fillRow_50, ze_X0_fillRow_58, ze_X0_fillRow_63, ze_X0_fillRow_67, ze_X0_fillRow_70, ze_X0_fillRow_75, ze_X0_fillRow_80, ze_X0_fillRow_83, ze_X0_fillRow_86, ze_X0_fillRow_92, zcal_x, zfh_nil, zfh_cons, zset_0, zset_1, zset_s, zcal_v, zcal_n, zcalI_n, zco_O, zcf_O, zcs_O, zisc_O, zr8_A, zr8_S, zri_A, zri_B, zri_C, zrl_L, zrd_D, zrs_R, zgi_A, zgi_S, zgi_B, zgi_C, zgl_L, zgd_D, zisa_A, zisa_S, zisa_L, zisa_B, zisa_R, zln_A, zln_S, zln_L, zln_B, zln_R, zwi_A, zwl_L, zwd_D, zclr_i, zclr_r, zclr_l, zclr_d, zclr_n, zok_i, zok_l, zok_b0, zok_b1, I_add, I_sub, I_mul, I_neg, J_add, J_sub, J_mul, J_toI, I_ofNat, I_cl, I_J, I_ne2, zup_same, zup_up, zup_ne, zc1_eqB, zc1_neB, zret_b, zret_b0, zret_b1, List.getD_cons_zero, List.getD_cons_succ, List.length_cons, List.length_nil, List.set_cons_zero, List.set_cons_succ, Option.toList, List.cons_append, List.nil_append, Int.cast_ofNat_Int, decide_eq_true_eq, Bool.and_eq_true, and_self, true_and, and_true, if_true, if_false, not_true_eq_false, not_false_eq_true, ↓reduceIte, Nat.reduceAdd, Nat.reduceLT, Nat.reduceLeDiff, Nat.reduceEqDiff, Int.reduceAdd, Int.reduceSub, Int.reduceMul, Int.reduceNeg, Int.reduceLT, Int.reduceLE, Int.reduceEq, Int.reduceToNat, Int.toNat_natCast, Nat.lt_add_one, Nat.zero_lt_succ, q1_eq_t, q1_eq_f, q2_eq_t, q2_eq_f, ql_eq_t, ql_eq_f, q1_ne_t, q1_ne_f, q2_ne_t, q2_ne_f, ql_ne_t, ql_ne_f, q1_lt_t, q1_lt_f, q2_lt_t, q2_lt_f, ql_lt_t, ql_lt_f, q1_ge_t, q1_ge_f, q2_ge_t, q2_ge_f, ql_ge_t, ql_ge_f, q1_gt_t, q1_gt_f, q2_gt_t, q2_gt_f, ql_gt_t, ql_gt_f, q1_le_t, q1_le_f, q2_le_t, q2_le_f, ql_le_t, ql_le_f, zib_t, qb_t, qb_f, nk_add, nk_mul, nk_sub, nk_d1, nk_d0, nk_toNat, nk_r1, nk_l1, nk_m1, nk_n1, nk_s1, nk_t1, nk_r2, nk_l2, nk_m2, nk_n2, nk_s2, nk_t2, nk_r3, nk_l3, nk_m3, nk_n3, nk_s3, nk_t3, nk_r4, nk_l4, nk_m4, nk_n4, nk_s4, nk_t4, nk_r6, nk_l6, nk_m6, nk_n6, nk_s6, nk_t6, nk_r7, nk_l7, nk_m7, nk_n7, nk_s7, nk_t7, nk_r8, nk_l8, nk_m8, nk_n8, nk_s8, nk_t8, nk_r12, nk_l12, nk_m12, nk_n12, nk_s12, nk_t12, nk_r31, nk_l31, nk_m31, nk_n31, nk_s31, nk_t31, nk_r32, nk_l32, nk_m32, nk_n32, nk_s32, nk_t32, nk_r59, nk_l59, nk_m59, nk_n59, nk_s59, nk_t59, nk_r60, nk_l60, nk_m60, nk_n60, nk_s60, nk_t60, nk_r96, nk_l96, nk_m96, nk_n96, nk_s96, nk_t96, nk_r97, nk_l97, nk_m97, nk_n97, nk_s97, nk_t97, nk_r120, nk_l120, nk_m120, nk_n120, nk_s120, nk_t120, nk_r240, nk_l240, nk_m240, nk_n240, nk_s240, nk_t240, nk_r255, nk_l255, nk_m255, nk_n255, nk_s255, nk_t255, nk_r256, nk_l256, nk_m256, nk_n256, nk_s256, nk_t256, Nat.add_zero, Nat.zero_add, Nat.mul_one, Nat.one_mul, Nat.mul_zero, Nat.zero_mul, Nat.sub_zero, Nat.reduceSub, Nat.reduceMul, Nat.add_sub_cancel, Bool.false_eq_true, Int.add_zero, Int.zero_add, Int.sub_zero]
  · rw [i3 i (by omega)]
    constructor
    · rintro ⟨x, h1, rfl, rfl, h4⟩
      obtain ⟨g1, g2, g3, s, g4, g5, g6, g7⟩ := c5 x h1
      refine ⟨g3, BK x, g2, ?_, h4⟩
      rw [g6, g7, ← wsl_app (Nat.zero_le _) g5 (Nat.le_refl _), wsl_full]
    · rintro ⟨h1, j, h2, h3, h4⟩
      have hlen := congrArg List.length h3
      rw [List.length_append] at hlen
      obtain ⟨x, g1, g2, g3, g4⟩ := c6 w (P i).length h1 h1 (by omega)
      have h5 : wsl (P w) 0 (P i).length = P i := by
        unfold wsl
        rw [h3, List.drop_zero]
        exact List.take_left
      have h6 : wsl (P w) (P i).length (P w).length = P j := by
        unfold wsl
        rw [List.take_length, h3]
        exact List.drop_left
      obtain ⟨f1, f2, f3, -⟩ := c5 x g1
      have h7 := spc_inj hP f1 hi (g3.trans h5)
      have h8 := spc_inj hP f2 h2 (g4.trans h6)
      exact ⟨x, g1, h7, g2, by rw [h8]; exact h4⟩
end
/-! slots -/
theorem J_mod (a : Nat) : J a = J ((a % 18446744073709551616 : Nat) : Int) := by
  apply Int64.toBitVec_inj.mp
  rw [J_bv, J_bv]
  apply BitVec.eq_of_toNat_eq
  rw [BitVec.toNat_ofNat, BitVec.toNat_ofNat]
  exact (Nat.mod_mod _ _).symm
theorem hs_ex : ∃ h : Nat → Nat, ∀ x, h x < 256 ∧ (((J ((x : Int) * 11400714819323198485)).toUInt64 >>> ((J 56).toUInt64 &&& Int64.toUInt64 63)).toInt64).toInt32 = I (h x) := by
  refine ⟨fun x => 11400714819323198485 * x % 18446744073709551616 / 72057594037927936, fun x => ⟨by dsimp only; omega, ?_⟩⟩
  dsimp only
  rw [show ((x : Int) * 11400714819323198485) = ((11400714819323198485 * x : Nat) : Int) by omega, J_mod, J_ushrI (Nat.mod_lt _ (by decide)) (by omega) (by omega), J_toI]
  rw [show (2 ^ (56 : Int).toNat) = 72057594037927936 by decide]
noncomputable def hs : Nat → Nat := Classical.choose hs_ex
theorem hs_lt (x : Nat) : hs x < 256 := (Classical.choose_spec hs_ex x).1
theorem hsh (x : Nat) : (((J ((x : Int) * 11400714819323198485)).toUInt64 >>> ((J 56).toUInt64 &&& Int64.toUInt64 63)).toInt64).toInt32 = I (hs x) := (Classical.choose_spec hs_ex x).2
theorem I_rem256 {s : Nat} (h : s < 2147483648) : I s - I s / I 256 * I 256 = I ((s % 256 : Nat) : Int) := by
  have e : ((s : Int)).tdiv 256 = ((s / 256 : Nat) : Int) := by
    rw [Int.tdiv_eq_ediv_of_nonneg (by omega)]; omega
  rw [I_div (b := 256) ⟨by omega, by omega⟩ ⟨by omega, by omega⟩ (by rw [e]; exact ⟨by omega, by omega⟩), e, I_mul, I_sub]
  congr 1
  omega
theorem I_ne256 : ¬ (I 256 = 0) := by decide
/-- how many slots ahead of k are free -/
def cz (SL : Nat → Int) : Nat → Nat
  | 0 => 0
  | k + 1 => if SL k = 0 then cz SL k + 1 else cz SL k
theorem cz_pos {SL : Nat → Int} : ∀ k, 0 < cz SL k → ∃ s, s < k ∧ SL s = 0
  | 0, h => by cases h
  | k + 1, h => by
    by_cases hk : SL k = 0
    · exact ⟨k, by omega, hk⟩
    · rw [show cz SL (k + 1) = cz SL k from if_neg hk] at h
      obtain ⟨s, h1, h2⟩ := cz_pos k h
      exact ⟨s, by omega, h2⟩
theorem cz_lt {SL : Nat → Int} {s : Nat} (h0 : SL s = 0) : ∀ k, s < k → 0 < cz SL k
  | 0, h => by cases h
  | k + 1, h => by
    have e : cz SL (k + 1) = if SL k = 0 then cz SL k + 1 else cz SL k := rfl
    by_cases hs : s = k
    · subst hs; rw [if_pos h0] at e; omega
    · have := cz_lt h0 k (by omega)
      split at e <;> omega
theorem cz_set {SL : Nat → Int} {s : Nat} {v : Int} (h0 : SL s = 0) (hv : v ≠ 0) : ∀ k, (s < k → cz (zst SL s v) k + 1 = cz SL k) ∧ (¬ s < k → cz (zst SL s v) k = cz SL k)
  | 0 => ⟨fun h => (by cases h), fun _ => rfl⟩
  | k + 1 => by
    obtain ⟨i1, i2⟩ := cz_set h0 hv k
    have e1 : cz SL (k + 1) = if SL k = 0 then cz SL k + 1 else cz SL k := rfl
    have e2 : cz (zst SL s v) (k + 1) = if zst SL s v k = 0 then cz (zst SL s v) k + 1 else cz (zst SL s v) k := rfl
    by_cases hs : s = k
    · subst hs
      rw [zst_same, if_neg hv] at e2
      rw [if_pos h0] at e1
      have := i2 (by omega)
      exact ⟨fun _ => by omega, fun z => by omega⟩
    · rw [zst_ne (fun z => hs z.symm)] at e2
      constructor
      · intro h
        have := i1 (by omega)
        by_cases hk : SL k = 0
        · rw [if_pos hk] at e1 e2; omega
        · rw [if_neg hk] at e1 e2; omega
      · intro h
        have := i2 (by omega)
        by_cases hk : SL k = 0
        · rw [if_pos hk] at e1 e2; omega
        · rw [if_neg hk] at e1 e2; omega
/-- the slots of n tables -/
def SLP (SL : Nat → Int) (n : Nat) (TB : Nat → Nat) : Prop := (∀ s, s < 256 → SL s = 0 ∨ ∃ k, k < n ∧ SL s = (k : Int) + 1) ∧ (∀ N, N = 256 → cz SL N = 256 - n) ∧ ∀ k, k < n → ∃ j, j < 256 ∧ SL ((hs (TB k) + j) % 256) = (k : Int) + 1 ∧ ∀ i, i < j → SL ((hs (TB k) + i) % 256) ≠ 0
section
variable {d n x : Nat} {f : zF} {m : zM} {KS FS SS NS TS SL : Nat → Int} {TB : Nat → Nat}
theorem so_l (hn : n ≤ 120) (hs1 : sto f n KS FS SS NS TS (fun k => (TB k : Int))) (h139 : f 139 = some (kA 256 SL)) (hSL : SLP SL n TB) (hx : x < 1152921504606846976) (hTB : ∀ k, k < n → TB k < 1152921504606846976) : ∀ (r j : Nat) (a5 a6 : Value), j + r = 256 → (∀ i, i < j → ∃ k, k < n ∧ SL ((hs x + i) % 256) = (k : Int) + 1 ∧ TB k ≠ x) → ∃ s, s < 256 ∧ zex zTb d zqX6_slotOf 13 [.ref 11, .long (J x), .null, .int (I (hs x)), .int (I j), a5, a6] [] f m = some (.inl (some (.int (I (s : Nat)))), f, m) ∧ (SL s = 0 → ∃ j, j < 256 ∧ s = (hs x + j) % 256 ∧ ∀ i, i < j → SL ((hs x + i) % 256) ≠ 0) ∧ (SL s ≠ 0 → ∃ k, k < n ∧ SL s = (k : Int) + 1 ∧ TB k = x) ∧ (SL s = 0 → ∀ k, k < n → TB k ≠ x) := by
  obtain ⟨s0, s1, s2, s3, s4, s5, s6⟩ := hs1
  obtain ⟨p1, p2, p3⟩ := hSL
  have hh := hs_lt x
  intro r
  induction r with
  | zero =>
    intro j a5 a6 hj hp
    obtain rfl : j = 256 := by omega
    exfalso
    obtain ⟨N, hN⟩ : ∃ N : Nat, N = 256 := ⟨_, rfl⟩
    have hcz := p2 N hN
    obtain ⟨s, h1, h2⟩ := cz_pos (SL := SL) N (by omega)
    obtain ⟨k, h3, h4, h5⟩ := hp ((s + 256 - hs x) % 256) (by omega)
    rw [show (hs x + (s + 256 - hs x) % 256) % 256 = s by omega, h2] at h4
    omega
  | succ r ih =>
    intro j a5 a6 hj hp
    have hm : (hs x + j) % 256 < 256 := Nat.mod_lt _ (by omega)
    rcases p1 _ hm with h0 | ⟨k, h1, h2⟩
    · refine ⟨(hs x + j) % 256, hm, ?_, fun _ => ⟨j, by omega, rfl, fun i hi => ?_⟩, fun z => absurd h0 z, fun _ k hk hz => ?_⟩
      · rw [ze_X6_slotOf_13]
        simp (disch := omega) only [ze_X6_slotOf_0, ze_X6_slotOf_21, ze_X6_slotOf_29, ze_X6_slotOf_35, ze_X6_slotOf_38, ze_X6_slotOf_47, ze_X6_slotOf_53, ze_X6_slotOf_54, ze_X6_slotOf_57, ze_X6_slotOf_61, ze_X6_slotOf_64, ze_X6_slotOf_69, ze_X6_slotOf_72, ze_X6_slotOf_78, zcal_x, zfh_nil, zfh_cons, zset_0, zset_1, zset_s, zcal_v, zcal_n, zcalI_n, zco_O, zcf_O, zcs_O, zisc_O, zr8_A, zr8_S, zri_A, zri_B, zri_C, zrl_L, zrd_D, zrs_R, zgi_A, zgi_S, zgi_B, zgi_C, zgl_L, zgd_D, zisa_A, zisa_S, zisa_L, zisa_B, zisa_R, zln_A, zln_S, zln_L, zln_B, zln_R, zwi_A, zwl_L, zwd_D, zclr_i, zclr_r, zclr_l, zclr_d, zclr_n, zok_i, zok_l, zok_b0, zok_b1, I_add, I_sub, I_mul, I_neg, J_add, J_sub, J_mul, J_toI, I_ofNat, I_cl, I_J, I_ne2, zup_same, zup_up, zup_ne, zc1_eqB, zc1_neB, zret_b, zret_b0, zret_b1, List.getD_cons_zero, List.getD_cons_succ, List.length_cons, List.length_nil, List.set_cons_zero, List.set_cons_succ, Option.toList, List.cons_append, List.nil_append, Int.cast_ofNat_Int, decide_eq_true_eq, Bool.and_eq_true, and_self, true_and, and_true, if_true, if_false, not_true_eq_false, not_false_eq_true, ↓reduceIte, Nat.reduceAdd, Nat.reduceLT, Nat.reduceLeDiff, Nat.reduceEqDiff, Int.reduceAdd, Int.reduceSub, Int.reduceMul, Int.reduceNeg, Int.reduceLT, Int.reduceLE, Int.reduceEq, Int.reduceToNat, Int.toNat_natCast, Nat.lt_add_one, Nat.zero_lt_succ, q1_eq_t, q1_eq_f, q2_eq_t, q2_eq_f, ql_eq_t, ql_eq_f, q1_ne_t, q1_ne_f, q2_ne_t, q2_ne_f, ql_ne_t, ql_ne_f, q1_lt_t, q1_lt_f, q2_lt_t, q2_lt_f, ql_lt_t, ql_lt_f, q1_ge_t, q1_ge_f, q2_ge_t, q2_ge_f, ql_ge_t, ql_ge_f, q1_gt_t, q1_gt_f, q2_gt_t, q2_gt_f, ql_gt_t, ql_gt_f, q1_le_t, q1_le_f, q2_le_t, q2_le_f, ql_le_t, ql_le_f, zib_t, qb_t, qb_f, nk_add, nk_mul, nk_sub, nk_d1, nk_d0, nk_toNat, nk_r1, nk_l1, nk_m1, nk_n1, nk_s1, nk_t1, nk_r2, nk_l2, nk_m2, nk_n2, nk_s2, nk_t2, nk_r3, nk_l3, nk_m3, nk_n3, nk_s3, nk_t3, nk_r4, nk_l4, nk_m4, nk_n4, nk_s4, nk_t4, nk_r6, nk_l6, nk_m6, nk_n6, nk_s6, nk_t6, nk_r7, nk_l7, nk_m7, nk_n7, nk_s7, nk_t7, nk_r8, nk_l8, nk_m8, nk_n8, nk_s8, nk_t8, nk_r12, nk_l12, nk_m12, nk_n12, nk_s12, nk_t12, nk_r31, nk_l31, nk_m31, nk_n31, nk_s31, nk_t31, nk_r32, nk_l32, nk_m32, nk_n32, nk_s32, nk_t32, nk_r59, nk_l59, nk_m59, nk_n59, nk_s59, nk_t59, nk_r60, nk_l60, nk_m60, nk_n60, nk_s60, nk_t60, nk_r96, nk_l96, nk_m96, nk_n96, nk_s96, nk_t96, nk_r97, nk_l97, nk_m97, nk_n97, nk_s97, nk_t97, nk_r120, nk_l120, nk_m120, nk_n120, nk_s120, nk_t120, nk_r240, nk_l240, nk_m240, nk_n240, nk_s240, nk_t240, nk_r255, nk_l255, nk_m255, nk_n255, nk_s255, nk_t255, nk_r256, nk_l256, nk_m256, nk_n256, nk_s256, nk_t256, Nat.add_zero, Nat.zero_add, Nat.mul_one, Nat.one_mul, Nat.mul_zero, Nat.zero_mul, Nat.sub_zero, Nat.reduceSub, Nat.reduceMul, Nat.add_sub_cancel, Bool.false_eq_true, Int.add_zero, Int.zero_add, Int.sub_zero, I_rem256, I_ne256, s0, h139, h0]
      · obtain ⟨k, h3, h4, h5⟩ := hp i hi
        rw [h4]; omega
      · obtain ⟨j2, h3, h4, h5⟩ := p3 k hk
        rw [hz] at h4 h5
        rcases Nat.lt_trichotomy j2 j with h6 | h6 | h6
        · obtain ⟨k2, h7, h8, h9⟩ := hp j2 h6
          rw [h4] at h8
          have : k = k2 := by omega
          subst this
          exact h9 hz
        · subst h6; rw [h4] at h0; omega
        · exact h5 j h6 h0
    · have hTk := hTB k h1
      by_cases he : TB k = x
      · refine ⟨(hs x + j) % 256, hm, ?_, fun z => absurd z (by omega), fun _ => ⟨k, h1, h2, he⟩, fun z => absurd z (by omega)⟩
        rw [ze_X6_slotOf_13]
        have h3 : (k : Int) + 1 - 1 = k := by omega
        simp (disch := omega) only [ze_X6_slotOf_0, ze_X6_slotOf_21, ze_X6_slotOf_29, ze_X6_slotOf_35, ze_X6_slotOf_38, ze_X6_slotOf_47, ze_X6_slotOf_53, ze_X6_slotOf_54, ze_X6_slotOf_57, ze_X6_slotOf_61, ze_X6_slotOf_64, ze_X6_slotOf_69, ze_X6_slotOf_72, ze_X6_slotOf_78, zcal_x, zfh_nil, zfh_cons, zset_0, zset_1, zset_s, zcal_v, zcal_n, zcalI_n, zco_O, zcf_O, zcs_O, zisc_O, zr8_A, zr8_S, zri_A, zri_B, zri_C, zrl_L, zrd_D, zrs_R, zgi_A, zgi_S, zgi_B, zgi_C, zgl_L, zgd_D, zisa_A, zisa_S, zisa_L, zisa_B, zisa_R, zln_A, zln_S, zln_L, zln_B, zln_R, zwi_A, zwl_L, zwd_D, zclr_i, zclr_r, zclr_l, zclr_d, zclr_n, zok_i, zok_l, zok_b0, zok_b1, I_add, I_sub, I_mul, I_neg, J_add, J_sub, J_mul, J_toI, I_ofNat, I_cl, I_J, I_ne2, zup_same, zup_up, zup_ne, zc1_eqB, zc1_neB, zret_b, zret_b0, zret_b1, List.getD_cons_zero, List.getD_cons_succ, List.length_cons, List.length_nil, List.set_cons_zero, List.set_cons_succ, Option.toList, List.cons_append, List.nil_append, Int.cast_ofNat_Int, decide_eq_true_eq, Bool.and_eq_true, and_self, true_and, and_true, if_true, if_false, not_true_eq_false, not_false_eq_true, ↓reduceIte, Nat.reduceAdd, Nat.reduceLT, Nat.reduceLeDiff, Nat.reduceEqDiff, Int.reduceAdd, Int.reduceSub, Int.reduceMul, Int.reduceNeg, Int.reduceLT, Int.reduceLE, Int.reduceEq, Int.reduceToNat, Int.toNat_natCast, Nat.lt_add_one, Nat.zero_lt_succ, q1_eq_t, q1_eq_f, q2_eq_t, q2_eq_f, ql_eq_t, ql_eq_f, q1_ne_t, q1_ne_f, q2_ne_t, q2_ne_f, ql_ne_t, ql_ne_f, q1_lt_t, q1_lt_f, q2_lt_t, q2_lt_f, ql_lt_t, ql_lt_f, q1_ge_t, q1_ge_f, q2_ge_t, q2_ge_f, ql_ge_t, ql_ge_f, q1_gt_t, q1_gt_f, q2_gt_t, q2_gt_f, ql_gt_t, ql_gt_f, q1_le_t, q1_le_f, q2_le_t, q2_le_f, ql_le_t, ql_le_f, zib_t, qb_t, qb_f, nk_add, nk_mul, nk_sub, nk_d1, nk_d0, nk_toNat, nk_r1, nk_l1, nk_m1, nk_n1, nk_s1, nk_t1, nk_r2, nk_l2, nk_m2, nk_n2, nk_s2, nk_t2, nk_r3, nk_l3, nk_m3, nk_n3, nk_s3, nk_t3, nk_r4, nk_l4, nk_m4, nk_n4, nk_s4, nk_t4, nk_r6, nk_l6, nk_m6, nk_n6, nk_s6, nk_t6, nk_r7, nk_l7, nk_m7, nk_n7, nk_s7, nk_t7, nk_r8, nk_l8, nk_m8, nk_n8, nk_s8, nk_t8, nk_r12, nk_l12, nk_m12, nk_n12, nk_s12, nk_t12, nk_r31, nk_l31, nk_m31, nk_n31, nk_s31, nk_t31, nk_r32, nk_l32, nk_m32, nk_n32, nk_s32, nk_t32, nk_r59, nk_l59, nk_m59, nk_n59, nk_s59, nk_t59, nk_r60, nk_l60, nk_m60, nk_n60, nk_s60, nk_t60, nk_r96, nk_l96, nk_m96, nk_n96, nk_s96, nk_t96, nk_r97, nk_l97, nk_m97, nk_n97, nk_s97, nk_t97, nk_r120, nk_l120, nk_m120, nk_n120, nk_s120, nk_t120, nk_r240, nk_l240, nk_m240, nk_n240, nk_s240, nk_t240, nk_r255, nk_l255, nk_m255, nk_n255, nk_s255, nk_t255, nk_r256, nk_l256, nk_m256, nk_n256, nk_s256, nk_t256, Nat.add_zero, Nat.zero_add, Nat.mul_one, Nat.one_mul, Nat.mul_zero, Nat.zero_mul, Nat.sub_zero, Nat.reduceSub, Nat.reduceMul, Nat.add_sub_cancel, Bool.false_eq_true, Int.add_zero, Int.zero_add, Int.sub_zero, I_rem256, I_ne256, s0, s6, h139, h2, he, Nat.add_sub_cancel]
      · obtain ⟨s, k1, k2, k3, k4, k5⟩ := ih (j + 1) (.int (I ((hs x + j) % 256 : Nat))) (.int (I (k : Nat))) (by omega) (by
          intro i hi
          by_cases hij : i = j
          · subst hij; exact ⟨k, h1, h2, he⟩
          · exact hp i (by omega))
        refine ⟨s, k1, ?_, k3, k4, k5⟩
        clear k3 k4 k5
        rw [ze_X6_slotOf_13]
        refine Eq.trans ?_ k2
        simp (disch := omega) only [ze_X6_slotOf_0, ze_X6_slotOf_21, ze_X6_slotOf_29, ze_X6_slotOf_35, ze_X6_slotOf_38, ze_X6_slotOf_47, ze_X6_slotOf_53, ze_X6_slotOf_54, ze_X6_slotOf_57, ze_X6_slotOf_61, ze_X6_slotOf_64, ze_X6_slotOf_69, ze_X6_slotOf_72, ze_X6_slotOf_78, zcal_x, zfh_nil, zfh_cons, zset_0, zset_1, zset_s, zcal_v, zcal_n, zcalI_n, zco_O, zcf_O, zcs_O, zisc_O, zr8_A, zr8_S, zri_A, zri_B, zri_C, zrl_L, zrd_D, zrs_R, zgi_A, zgi_S, zgi_B, zgi_C, zgl_L, zgd_D, zisa_A, zisa_S, zisa_L, zisa_B, zisa_R, zln_A, zln_S, zln_L, zln_B, zln_R, zwi_A, zwl_L, zwd_D, zclr_i, zclr_r, zclr_l, zclr_d, zclr_n, zok_i, zok_l, zok_b0, zok_b1, I_add, I_sub, I_mul, I_neg, J_add, J_sub, J_mul, J_toI, I_ofNat, I_cl, I_J, I_ne2, zup_same, zup_up, zup_ne, zc1_eqB, zc1_neB, zret_b, zret_b0, zret_b1, List.getD_cons_zero, List.getD_cons_succ, List.length_cons, List.length_nil, List.set_cons_zero, List.set_cons_succ, Option.toList, List.cons_append, List.nil_append, Int.cast_ofNat_Int, decide_eq_true_eq, Bool.and_eq_true, and_self, true_and, and_true, if_true, if_false, not_true_eq_false, not_false_eq_true, ↓reduceIte, Nat.reduceAdd, Nat.reduceLT, Nat.reduceLeDiff, Nat.reduceEqDiff, Int.reduceAdd, Int.reduceSub, Int.reduceMul, Int.reduceNeg, Int.reduceLT, Int.reduceLE, Int.reduceEq, Int.reduceToNat, Int.toNat_natCast, Nat.lt_add_one, Nat.zero_lt_succ, q1_eq_t, q1_eq_f, q2_eq_t, q2_eq_f, ql_eq_t, ql_eq_f, q1_ne_t, q1_ne_f, q2_ne_t, q2_ne_f, ql_ne_t, ql_ne_f, q1_lt_t, q1_lt_f, q2_lt_t, q2_lt_f, ql_lt_t, ql_lt_f, q1_ge_t, q1_ge_f, q2_ge_t, q2_ge_f, ql_ge_t, ql_ge_f, q1_gt_t, q1_gt_f, q2_gt_t, q2_gt_f, ql_gt_t, ql_gt_f, q1_le_t, q1_le_f, q2_le_t, q2_le_f, ql_le_t, ql_le_f, zib_t, qb_t, qb_f, nk_add, nk_mul, nk_sub, nk_d1, nk_d0, nk_toNat, nk_r1, nk_l1, nk_m1, nk_n1, nk_s1, nk_t1, nk_r2, nk_l2, nk_m2, nk_n2, nk_s2, nk_t2, nk_r3, nk_l3, nk_m3, nk_n3, nk_s3, nk_t3, nk_r4, nk_l4, nk_m4, nk_n4, nk_s4, nk_t4, nk_r6, nk_l6, nk_m6, nk_n6, nk_s6, nk_t6, nk_r7, nk_l7, nk_m7, nk_n7, nk_s7, nk_t7, nk_r8, nk_l8, nk_m8, nk_n8, nk_s8, nk_t8, nk_r12, nk_l12, nk_m12, nk_n12, nk_s12, nk_t12, nk_r31, nk_l31, nk_m31, nk_n31, nk_s31, nk_t31, nk_r32, nk_l32, nk_m32, nk_n32, nk_s32, nk_t32, nk_r59, nk_l59, nk_m59, nk_n59, nk_s59, nk_t59, nk_r60, nk_l60, nk_m60, nk_n60, nk_s60, nk_t60, nk_r96, nk_l96, nk_m96, nk_n96, nk_s96, nk_t96, nk_r97, nk_l97, nk_m97, nk_n97, nk_s97, nk_t97, nk_r120, nk_l120, nk_m120, nk_n120, nk_s120, nk_t120, nk_r240, nk_l240, nk_m240, nk_n240, nk_s240, nk_t240, nk_r255, nk_l255, nk_m255, nk_n255, nk_s255, nk_t255, nk_r256, nk_l256, nk_m256, nk_n256, nk_s256, nk_t256, Nat.add_zero, Nat.zero_add, Nat.mul_one, Nat.one_mul, Nat.mul_zero, Nat.zero_mul, Nat.sub_zero, Nat.reduceSub, Nat.reduceMul, Nat.add_sub_cancel, Bool.false_eq_true, Int.add_zero, Int.zero_add, Int.sub_zero, I_rem256, I_ne256, s0, s6, h139, h2, Nat.add_sub_cancel]
theorem s_slotOf (hd : 1 ≤ d) (hn : n ≤ 120) (hs1 : sto f n KS FS SS NS TS (fun k => (TB k : Int))) (h139 : f 139 = some (kA 256 SL)) (hSL : SLP SL n TB) (hx : x < 1152921504606846976) (hTB : ∀ k, k < n → TB k < 1152921504606846976) : ∃ s, s < 256 ∧ zrun zTb d 55 [.ref 11, .long (J x)] f m = some (.inl (some (.int (I (s : Nat)))), f, m) ∧ (SL s = 0 → ∃ j, j < 256 ∧ s = (hs x + j) % 256 ∧ ∀ i, i < j → SL ((hs x + i) % 256) ≠ 0) ∧ (SL s ≠ 0 → ∃ k, k < n ∧ SL s = (k : Int) + 1 ∧ TB k = x) ∧ (SL s = 0 → ∀ k, k < n → TB k ≠ x) := by
  obtain ⟨d, rfl⟩ : ∃ e, d = e + 1 := ⟨d - 1, by omega⟩
  obtain ⟨s, k1, k2, k3⟩ := so_l (d := d) (m := m) hn hs1 h139 hSL hx hTB 256 0 .null .null (by omega) (fun i hi => by omega)
  refine ⟨s, k1, ?_, k3⟩
  clear k3
  rw [zs_X6_slotOf]
  refine Eq.trans ?_ k2
  simp (disch := omega) only [ze_X6_slotOf_0, ze_X6_slotOf_21, ze_X6_slotOf_29, ze_X6_slotOf_35, ze_X6_slotOf_38, ze_X6_slotOf_47, ze_X6_slotOf_53, ze_X6_slotOf_54, ze_X6_slotOf_57, ze_X6_slotOf_61, ze_X6_slotOf_64, ze_X6_slotOf_69, ze_X6_slotOf_72, ze_X6_slotOf_78, zcal_x, zfh_nil, zfh_cons, zset_0, zset_1, zset_s, zcal_v, zcal_n, zcalI_n, zco_O, zcf_O, zcs_O, zisc_O, zr8_A, zr8_S, zri_A, zri_B, zri_C, zrl_L, zrd_D, zrs_R, zgi_A, zgi_S, zgi_B, zgi_C, zgl_L, zgd_D, zisa_A, zisa_S, zisa_L, zisa_B, zisa_R, zln_A, zln_S, zln_L, zln_B, zln_R, zwi_A, zwl_L, zwd_D, zclr_i, zclr_r, zclr_l, zclr_d, zclr_n, zok_i, zok_l, zok_b0, zok_b1, I_add, I_sub, I_mul, I_neg, J_add, J_sub, J_mul, J_toI, I_ofNat, I_cl, I_J, I_ne2, zup_same, zup_up, zup_ne, zc1_eqB, zc1_neB, zret_b, zret_b0, zret_b1, List.getD_cons_zero, List.getD_cons_succ, List.length_cons, List.length_nil, List.set_cons_zero, List.set_cons_succ, Option.toList, List.cons_append, List.nil_append, Int.cast_ofNat_Int, decide_eq_true_eq, Bool.and_eq_true, and_self, true_and, and_true, if_true, if_false, not_true_eq_false, not_false_eq_true, ↓reduceIte, Nat.reduceAdd, Nat.reduceLT, Nat.reduceLeDiff, Nat.reduceEqDiff, Int.reduceAdd, Int.reduceSub, Int.reduceMul, Int.reduceNeg, Int.reduceLT, Int.reduceLE, Int.reduceEq, Int.reduceToNat, Int.toNat_natCast, Nat.lt_add_one, Nat.zero_lt_succ, q1_eq_t, q1_eq_f, q2_eq_t, q2_eq_f, ql_eq_t, ql_eq_f, q1_ne_t, q1_ne_f, q2_ne_t, q2_ne_f, ql_ne_t, ql_ne_f, q1_lt_t, q1_lt_f, q2_lt_t, q2_lt_f, ql_lt_t, ql_lt_f, q1_ge_t, q1_ge_f, q2_ge_t, q2_ge_f, ql_ge_t, ql_ge_f, q1_gt_t, q1_gt_f, q2_gt_t, q2_gt_f, ql_gt_t, ql_gt_f, q1_le_t, q1_le_f, q2_le_t, q2_le_f, ql_le_t, ql_le_f, zib_t, qb_t, qb_f, nk_add, nk_mul, nk_sub, nk_d1, nk_d0, nk_toNat, nk_r1, nk_l1, nk_m1, nk_n1, nk_s1, nk_t1, nk_r2, nk_l2, nk_m2, nk_n2, nk_s2, nk_t2, nk_r3, nk_l3, nk_m3, nk_n3, nk_s3, nk_t3, nk_r4, nk_l4, nk_m4, nk_n4, nk_s4, nk_t4, nk_r6, nk_l6, nk_m6, nk_n6, nk_s6, nk_t6, nk_r7, nk_l7, nk_m7, nk_n7, nk_s7, nk_t7, nk_r8, nk_l8, nk_m8, nk_n8, nk_s8, nk_t8, nk_r12, nk_l12, nk_m12, nk_n12, nk_s12, nk_t12, nk_r31, nk_l31, nk_m31, nk_n31, nk_s31, nk_t31, nk_r32, nk_l32, nk_m32, nk_n32, nk_s32, nk_t32, nk_r59, nk_l59, nk_m59, nk_n59, nk_s59, nk_t59, nk_r60, nk_l60, nk_m60, nk_n60, nk_s60, nk_t60, nk_r96, nk_l96, nk_m96, nk_n96, nk_s96, nk_t96, nk_r97, nk_l97, nk_m97, nk_n97, nk_s97, nk_t97, nk_r120, nk_l120, nk_m120, nk_n120, nk_s120, nk_t120, nk_r240, nk_l240, nk_m240, nk_n240, nk_s240, nk_t240, nk_r255, nk_l255, nk_m255, nk_n255, nk_s255, nk_t255, nk_r256, nk_l256, nk_m256, nk_n256, nk_s256, nk_t256, Nat.add_zero, Nat.zero_add, Nat.mul_one, Nat.one_mul, Nat.mul_zero, Nat.zero_mul, Nat.sub_zero, Nat.reduceSub, Nat.reduceMul, Nat.add_sub_cancel, Bool.false_eq_true, Int.add_zero, Int.zero_add, Int.sub_zero, hsh]
theorem s_holds (hd : 2 ≤ d) (hn : n ≤ 120) (hs1 : sto f n KS FS SS NS TS (fun k => (TB k : Int))) (h139 : f 139 = some (kA 256 SL)) (hSL : SLP SL n TB) (hx : x < 1152921504606846976) (hTB : ∀ k, k < n → TB k < 1152921504606846976) : ((∃ k, k < n ∧ TB k = x) ∧ zrun zTb d 54 [.ref 11, .long (J x)] f m = some (.inl (some (.int (I 1))), f, m)) ∨ ((∀ k, k < n → TB k ≠ x) ∧ zrun zTb d 54 [.ref 11, .long (J x)] f m = some (.inl (some (.int (I 0))), f, m)) := by
  obtain ⟨d, rfl⟩ : ∃ e, d = e + 1 := ⟨d - 1, by omega⟩
  obtain ⟨s, k1, k2, k3, k4, k5⟩ := s_slotOf (d := d) (m := m) (by omega) hn hs1 h139 hSL hx hTB
  obtain ⟨s0, s1, s2, s3, s4, s5, s6⟩ := hs1
  by_cases h0 : SL s = 0
  · refine Or.inr ⟨k5 h0, ?_⟩
    clear k3 k4 k5
    rw [zs_X6_holds]
    simp (disch := omega) only [ze_X6_holds_0, ze_X6_holds_5, ze_X6_holds_10, ze_X6_holds_15, ze_X6_holds_16, ze_X6_holds_19, ze_X6_holds_23, ze_X6_holds_25, ze_X6_holds_28, ze_X6_holds_32, zcal_x, zfh_nil, zfh_cons, zset_0, zset_1, zset_s, zcal_v, zcal_n, zcalI_n, zco_O, zcf_O, zcs_O, zisc_O, zr8_A, zr8_S, zri_A, zri_B, zri_C, zrl_L, zrd_D, zrs_R, zgi_A, zgi_S, zgi_B, zgi_C, zgl_L, zgd_D, zisa_A, zisa_S, zisa_L, zisa_B, zisa_R, zln_A, zln_S, zln_L, zln_B, zln_R, zwi_A, zwl_L, zwd_D, zclr_i, zclr_r, zclr_l, zclr_d, zclr_n, zok_i, zok_l, zok_b0, zok_b1, I_add, I_sub, I_mul, I_neg, J_add, J_sub, J_mul, J_toI, I_ofNat, I_cl, I_J, I_ne2, zup_same, zup_up, zup_ne, zc1_eqB, zc1_neB, zret_b, zret_b0, zret_b1, List.getD_cons_zero, List.getD_cons_succ, List.length_cons, List.length_nil, List.set_cons_zero, List.set_cons_succ, Option.toList, List.cons_append, List.nil_append, Int.cast_ofNat_Int, decide_eq_true_eq, Bool.and_eq_true, and_self, true_and, and_true, if_true, if_false, not_true_eq_false, not_false_eq_true, ↓reduceIte, Nat.reduceAdd, Nat.reduceLT, Nat.reduceLeDiff, Nat.reduceEqDiff, Int.reduceAdd, Int.reduceSub, Int.reduceMul, Int.reduceNeg, Int.reduceLT, Int.reduceLE, Int.reduceEq, Int.reduceToNat, Int.toNat_natCast, Nat.lt_add_one, Nat.zero_lt_succ, q1_eq_t, q1_eq_f, q2_eq_t, q2_eq_f, ql_eq_t, ql_eq_f, q1_ne_t, q1_ne_f, q2_ne_t, q2_ne_f, ql_ne_t, ql_ne_f, q1_lt_t, q1_lt_f, q2_lt_t, q2_lt_f, ql_lt_t, ql_lt_f, q1_ge_t, q1_ge_f, q2_ge_t, q2_ge_f, ql_ge_t, ql_ge_f, q1_gt_t, q1_gt_f, q2_gt_t, q2_gt_f, ql_gt_t, ql_gt_f, q1_le_t, q1_le_f, q2_le_t, q2_le_f, ql_le_t, ql_le_f, zib_t, qb_t, qb_f, nk_add, nk_mul, nk_sub, nk_d1, nk_d0, nk_toNat, nk_r1, nk_l1, nk_m1, nk_n1, nk_s1, nk_t1, nk_r2, nk_l2, nk_m2, nk_n2, nk_s2, nk_t2, nk_r3, nk_l3, nk_m3, nk_n3, nk_s3, nk_t3, nk_r4, nk_l4, nk_m4, nk_n4, nk_s4, nk_t4, nk_r6, nk_l6, nk_m6, nk_n6, nk_s6, nk_t6, nk_r7, nk_l7, nk_m7, nk_n7, nk_s7, nk_t7, nk_r8, nk_l8, nk_m8, nk_n8, nk_s8, nk_t8, nk_r12, nk_l12, nk_m12, nk_n12, nk_s12, nk_t12, nk_r31, nk_l31, nk_m31, nk_n31, nk_s31, nk_t31, nk_r32, nk_l32, nk_m32, nk_n32, nk_s32, nk_t32, nk_r59, nk_l59, nk_m59, nk_n59, nk_s59, nk_t59, nk_r60, nk_l60, nk_m60, nk_n60, nk_s60, nk_t60, nk_r96, nk_l96, nk_m96, nk_n96, nk_s96, nk_t96, nk_r97, nk_l97, nk_m97, nk_n97, nk_s97, nk_t97, nk_r120, nk_l120, nk_m120, nk_n120, nk_s120, nk_t120, nk_r240, nk_l240, nk_m240, nk_n240, nk_s240, nk_t240, nk_r255, nk_l255, nk_m255, nk_n255, nk_s255, nk_t255, nk_r256, nk_l256, nk_m256, nk_n256, nk_s256, nk_t256, Nat.add_zero, Nat.zero_add, Nat.mul_one, Nat.one_mul, Nat.mul_zero, Nat.zero_mul, Nat.sub_zero, Nat.reduceSub, Nat.reduceMul, Nat.add_sub_cancel, Bool.false_eq_true, Int.add_zero, Int.zero_add, Int.sub_zero, k2, s0, h139, h0]
  · obtain ⟨k, h1, h2, h3⟩ := k4 h0
    refine Or.inl ⟨⟨k, h1, h3⟩, ?_⟩
    clear k3 k4 k5
    rw [zs_X6_holds]
    simp (disch := omega) only [ze_X6_holds_0, ze_X6_holds_5, ze_X6_holds_10, ze_X6_holds_15, ze_X6_holds_16, ze_X6_holds_19, ze_X6_holds_23, ze_X6_holds_25, ze_X6_holds_28, ze_X6_holds_32, zcal_x, zfh_nil, zfh_cons, zset_0, zset_1, zset_s, zcal_v, zcal_n, zcalI_n, zco_O, zcf_O, zcs_O, zisc_O, zr8_A, zr8_S, zri_A, zri_B, zri_C, zrl_L, zrd_D, zrs_R, zgi_A, zgi_S, zgi_B, zgi_C, zgl_L, zgd_D, zisa_A, zisa_S, zisa_L, zisa_B, zisa_R, zln_A, zln_S, zln_L, zln_B, zln_R, zwi_A, zwl_L, zwd_D, zclr_i, zclr_r, zclr_l, zclr_d, zclr_n, zok_i, zok_l, zok_b0, zok_b1, I_add, I_sub, I_mul, I_neg, J_add, J_sub, J_mul, J_toI, I_ofNat, I_cl, I_J, I_ne2, zup_same, zup_up, zup_ne, zc1_eqB, zc1_neB, zret_b, zret_b0, zret_b1, List.getD_cons_zero, List.getD_cons_succ, List.length_cons, List.length_nil, List.set_cons_zero, List.set_cons_succ, Option.toList, List.cons_append, List.nil_append, Int.cast_ofNat_Int, decide_eq_true_eq, Bool.and_eq_true, and_self, true_and, and_true, if_true, if_false, not_true_eq_false, not_false_eq_true, ↓reduceIte, Nat.reduceAdd, Nat.reduceLT, Nat.reduceLeDiff, Nat.reduceEqDiff, Int.reduceAdd, Int.reduceSub, Int.reduceMul, Int.reduceNeg, Int.reduceLT, Int.reduceLE, Int.reduceEq, Int.reduceToNat, Int.toNat_natCast, Nat.lt_add_one, Nat.zero_lt_succ, q1_eq_t, q1_eq_f, q2_eq_t, q2_eq_f, ql_eq_t, ql_eq_f, q1_ne_t, q1_ne_f, q2_ne_t, q2_ne_f, ql_ne_t, ql_ne_f, q1_lt_t, q1_lt_f, q2_lt_t, q2_lt_f, ql_lt_t, ql_lt_f, q1_ge_t, q1_ge_f, q2_ge_t, q2_ge_f, ql_ge_t, ql_ge_f, q1_gt_t, q1_gt_f, q2_gt_t, q2_gt_f, ql_gt_t, ql_gt_f, q1_le_t, q1_le_f, q2_le_t, q2_le_f, ql_le_t, ql_le_f, zib_t, qb_t, qb_f, nk_add, nk_mul, nk_sub, nk_d1, nk_d0, nk_toNat, nk_r1, nk_l1, nk_m1, nk_n1, nk_s1, nk_t1, nk_r2, nk_l2, nk_m2, nk_n2, nk_s2, nk_t2, nk_r3, nk_l3, nk_m3, nk_n3, nk_s3, nk_t3, nk_r4, nk_l4, nk_m4, nk_n4, nk_s4, nk_t4, nk_r6, nk_l6, nk_m6, nk_n6, nk_s6, nk_t6, nk_r7, nk_l7, nk_m7, nk_n7, nk_s7, nk_t7, nk_r8, nk_l8, nk_m8, nk_n8, nk_s8, nk_t8, nk_r12, nk_l12, nk_m12, nk_n12, nk_s12, nk_t12, nk_r31, nk_l31, nk_m31, nk_n31, nk_s31, nk_t31, nk_r32, nk_l32, nk_m32, nk_n32, nk_s32, nk_t32, nk_r59, nk_l59, nk_m59, nk_n59, nk_s59, nk_t59, nk_r60, nk_l60, nk_m60, nk_n60, nk_s60, nk_t60, nk_r96, nk_l96, nk_m96, nk_n96, nk_s96, nk_t96, nk_r97, nk_l97, nk_m97, nk_n97, nk_s97, nk_t97, nk_r120, nk_l120, nk_m120, nk_n120, nk_s120, nk_t120, nk_r240, nk_l240, nk_m240, nk_n240, nk_s240, nk_t240, nk_r255, nk_l255, nk_m255, nk_n255, nk_s255, nk_t255, nk_r256, nk_l256, nk_m256, nk_n256, nk_s256, nk_t256, Nat.add_zero, Nat.zero_add, Nat.mul_one, Nat.one_mul, Nat.mul_zero, Nat.zero_mul, Nat.sub_zero, Nat.reduceSub, Nat.reduceMul, Nat.add_sub_cancel, Bool.false_eq_true, Int.add_zero, Int.zero_add, Int.sub_zero, k2, s0, h139, h2]
end
