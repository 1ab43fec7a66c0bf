/-! SPECS: the class writes a pattern's text: trees -/
section
variable {d N : Nat} {K L Z : Nat → Int} {p q t : zE} {b : Bool}
theorem rep_hd {x : Nat} (h : rep K L Z x (nd t)) : K x = ((kd t : Nat) : Int) ∧ Z x = ((sz t : Nat) : Int) := by
  obtain ⟨y, r, e⟩ := nd_kd t
  rw [e] at h
  have := (rep_cons.mp h).1
  exact ⟨this.1, this.2.2⟩
theorem sw6 : (I 6).toInt < 0 ∨ 5 < (I 6).toInt := by decide
theorem np_tree (hd : 5 ≤ d) (hN : N ≤ 60) : ∀ (t : zE) (x : Nat), gl t → x + sz t ≤ N → rep K L Z x (nd t) → NP d N K L Z (tx t) (ct t) [(x : Int)]
  | .num v, x, hg, hx, hr => by
    obtain ⟨d, rfl⟩ : ∃ e, d = e + 1 := ⟨d - 1, by omega⟩
    have hx1 : x + 1 ≤ N := hx
    by_cases hv : v = 0
    · have hK : K x = 0 := (rep_hd hr).1.trans (by show ((if v = 0 then 0 else 1 : Nat) : Int) = 0; rw [if_pos hv]; rfl)
      have ht : tx (.num v) = [48] := by show [if v = 0 then 48 else 49] = _; rw [if_pos hv]
      rw [ht]
      refine np_leaf hd (by omega) ?_
      intro f m n o SG IT hp hs hn
      obtain ⟨f1, e1, a1, a2⟩ := s_put (d := d) (m := m) (by omega) hs hn 48
      refine ⟨f1, ?_, a1, a2⟩
      have e2 := s_kindN (d := d) (m := m) (by omega) hp hN (show x < N by omega)
      rw [hK] at e2
      have h0 := hs.1
      have hp0 := hp.1
      rw [zs_X4_putNode]
      simp (disch := omega) only [ze_X4_putNode_0, (ze_X4_putNode_5_0 rfl), (ze_X4_putNode_5_1 rfl), (ze_X4_putNode_5_2 rfl), (ze_X4_putNode_5_3 rfl), (ze_X4_putNode_5_4 rfl), (ze_X4_putNode_5_5 rfl), ze_X4_putNode_5_d, ze_X4_putNode_44, ze_X4_putNode_50, ze_X4_putNode_53, ze_X4_putNode_59, ze_X4_putNode_62, ze_X4_putNode_68, ze_X4_putNode_71, ze_X4_putNode_74, ze_X4_putNode_80, ze_X4_putNode_86, ze_X4_putNode_89, ze_X4_putNode_95, ze_X4_putNode_101, ze_X4_putNode_104, ze_X4_putNode_110, ze_X4_putNode_116, ze_X4_putNode_119, ze_X4_putNode_125, ze_X4_putNode_131, ze_X4_putNode_137, zcal_x, zfh_nil, zfh_cons, zset_0, zset_1, zset_s, zcal_v, zcal_n, zcalI_n, zco_O, zcf_O, zcs_O, zisc_O, zr8_A, zr8_S, zri_A, zri_B, zri_C, zrl_L, zrd_D, zrs_R, zgi_A, zgi_S, zgi_B, zgi_C, zgl_L, zgd_D, zisa_A, zisa_S, zisa_L, zisa_B, zisa_R, zln_A, zln_S, zln_L, zln_B, zln_R, zwi_A, zwl_L, zwd_D, zclr_i, zclr_r, zclr_l, zclr_d, zclr_n, zok_i, zok_l, zok_b0, zok_b1, I_add, I_sub, I_mul, I_neg, J_add, J_sub, J_mul, J_toI, I_ofNat, I_cl, I_J, I_ne2, zup_same, zup_up, zup_ne, zc1_eqB, zc1_neB, zret_b, zret_b0, zret_b1, List.getD_cons_zero, List.getD_cons_succ, List.length_cons, List.length_nil, List.set_cons_zero, List.set_cons_succ, Option.toList, List.cons_append, List.nil_append, Int.cast_ofNat_Int, decide_eq_true_eq, Bool.and_eq_true, and_self, true_and, and_true, if_true, if_false, not_true_eq_false, not_false_eq_true, ↓reduceIte, Nat.reduceAdd, Nat.reduceLT, Nat.reduceLeDiff, Nat.reduceEqDiff, Int.reduceAdd, Int.reduceSub, Int.reduceMul, Int.reduceNeg, Int.reduceLT, Int.reduceLE, Int.reduceEq, Int.reduceToNat, Int.toNat_natCast, Nat.lt_add_one, Nat.zero_lt_succ, q1_eq_t, q1_eq_f, q2_eq_t, q2_eq_f, ql_eq_t, ql_eq_f, q1_ne_t, q1_ne_f, q2_ne_t, q2_ne_f, ql_ne_t, ql_ne_f, q1_lt_t, q1_lt_f, q2_lt_t, q2_lt_f, ql_lt_t, ql_lt_f, q1_ge_t, q1_ge_f, q2_ge_t, q2_ge_f, ql_ge_t, ql_ge_f, q1_gt_t, q1_gt_f, q2_gt_t, q2_gt_f, ql_gt_t, ql_gt_f, q1_le_t, q1_le_f, q2_le_t, q2_le_f, ql_le_t, ql_le_f, zib_t, qb_t, qb_f, nk_add, nk_mul, nk_sub, nk_d1, nk_d0, nk_toNat, nk_r1, nk_l1, nk_m1, nk_n1, nk_s1, nk_t1, nk_r2, nk_l2, nk_m2, nk_n2, nk_s2, nk_t2, nk_r3, nk_l3, nk_m3, nk_n3, nk_s3, nk_t3, nk_r4, nk_l4, nk_m4, nk_n4, nk_s4, nk_t4, nk_r6, nk_l6, nk_m6, nk_n6, nk_s6, nk_t6, nk_r7, nk_l7, nk_m7, nk_n7, nk_s7, nk_t7, nk_r8, nk_l8, nk_m8, nk_n8, nk_s8, nk_t8, nk_r12, nk_l12, nk_m12, nk_n12, nk_s12, nk_t12, nk_r31, nk_l31, nk_m31, nk_n31, nk_s31, nk_t31, nk_r32, nk_l32, nk_m32, nk_n32, nk_s32, nk_t32, nk_r59, nk_l59, nk_m59, nk_n59, nk_s59, nk_t59, nk_r60, nk_l60, nk_m60, nk_n60, nk_s60, nk_t60, nk_r96, nk_l96, nk_m96, nk_n96, nk_s96, nk_t96, nk_r97, nk_l97, nk_m97, nk_n97, nk_s97, nk_t97, nk_r120, nk_l120, nk_m120, nk_n120, nk_s120, nk_t120, nk_r240, nk_l240, nk_m240, nk_n240, nk_s240, nk_t240, nk_r255, nk_l255, nk_m255, nk_n255, nk_s255, nk_t255, nk_r256, nk_l256, nk_m256, nk_n256, nk_s256, nk_t256, Nat.add_zero, Nat.zero_add, Nat.mul_one, Nat.one_mul, Nat.mul_zero, Nat.zero_mul, Nat.sub_zero, Nat.reduceSub, Nat.reduceMul, Nat.add_sub_cancel, Bool.false_eq_true, Int.add_zero, Int.zero_add, Int.sub_zero, h0, hp0, e1, e2]
    · have hK : K x = 1 := (rep_hd hr).1.trans (by show ((if v = 0 then 0 else 1 : Nat) : Int) = 1; rw [if_neg hv]; rfl)
      have ht : tx (.num v) = [49] := by show [if v = 0 then 48 else 49] = _; rw [if_neg hv]
      rw [ht]
      refine np_leaf hd (by omega) ?_
      intro f m n o SG IT hp hs hn
      obtain ⟨f1, e1, a1, a2⟩ := s_put (d := d) (m := m) (by omega) hs hn 49
      refine ⟨f1, ?_, a1, a2⟩
      have e2 := s_kindN (d := d) (m := m) (by omega) hp hN (show x < N by omega)
      rw [hK] at e2
      have h0 := hs.1
      have hp0 := hp.1
      rw [zs_X4_putNode]
      simp (disch := omega) only [ze_X4_putNode_0, (ze_X4_putNode_5_0 rfl), (ze_X4_putNode_5_1 rfl), (ze_X4_putNode_5_2 rfl), (ze_X4_putNode_5_3 rfl), (ze_X4_putNode_5_4 rfl), (ze_X4_putNode_5_5 rfl), ze_X4_putNode_5_d, ze_X4_putNode_44, ze_X4_putNode_50, ze_X4_putNode_53, ze_X4_putNode_59, ze_X4_putNode_62, ze_X4_putNode_68, ze_X4_putNode_71, ze_X4_putNode_74, ze_X4_putNode_80, ze_X4_putNode_86, ze_X4_putNode_89, ze_X4_putNode_95, ze_X4_putNode_101, ze_X4_putNode_104, ze_X4_putNode_110, ze_X4_putNode_116, ze_X4_putNode_119, ze_X4_putNode_125, ze_X4_putNode_131, ze_X4_putNode_137, zcal_x, zfh_nil, zfh_cons, zset_0, zset_1, zset_s, zcal_v, zcal_n, zcalI_n, zco_O, zcf_O, zcs_O, zisc_O, zr8_A, zr8_S, zri_A, zri_B, zri_C, zrl_L, zrd_D, zrs_R, zgi_A, zgi_S, zgi_B, zgi_C, zgl_L, zgd_D, zisa_A, zisa_S, zisa_L, zisa_B, zisa_R, zln_A, zln_S, zln_L, zln_B, zln_R, zwi_A, zwl_L, zwd_D, zclr_i, zclr_r, zclr_l, zclr_d, zclr_n, zok_i, zok_l, zok_b0, zok_b1, I_add, I_sub, I_mul, I_neg, J_add, J_sub, J_mul, J_toI, I_ofNat, I_cl, I_J, I_ne2, zup_same, zup_up, zup_ne, zc1_eqB, zc1_neB, zret_b, zret_b0, zret_b1, List.getD_cons_zero, List.getD_cons_succ, List.length_cons, List.length_nil, List.set_cons_zero, List.set_cons_succ, Option.toList, List.cons_append, List.nil_append, Int.cast_ofNat_Int, decide_eq_true_eq, Bool.and_eq_true, and_self, true_and, and_true, if_true, if_false, not_true_eq_false, not_false_eq_true, ↓reduceIte, Nat.reduceAdd, Nat.reduceLT, Nat.reduceLeDiff, Nat.reduceEqDiff, Int.reduceAdd, Int.reduceSub, Int.reduceMul, Int.reduceNeg, Int.reduceLT, Int.reduceLE, Int.reduceEq, Int.reduceToNat, Int.toNat_natCast, Nat.lt_add_one, Nat.zero_lt_succ, q1_eq_t, q1_eq_f, q2_eq_t, q2_eq_f, ql_eq_t, ql_eq_f, q1_ne_t, q1_ne_f, q2_ne_t, q2_ne_f, ql_ne_t, ql_ne_f, q1_lt_t, q1_lt_f, q2_lt_t, q2_lt_f, ql_lt_t, ql_lt_f, q1_ge_t, q1_ge_f, q2_ge_t, q2_ge_f, ql_ge_t, ql_ge_f, q1_gt_t, q1_gt_f, q2_gt_t, q2_gt_f, ql_gt_t, ql_gt_f, q1_le_t, q1_le_f, q2_le_t, q2_le_f, ql_le_t, ql_le_f, zib_t, qb_t, qb_f, nk_add, nk_mul, nk_sub, nk_d1, nk_d0, nk_toNat, nk_r1, nk_l1, nk_m1, nk_n1, nk_s1, nk_t1, nk_r2, nk_l2, nk_m2, nk_n2, nk_s2, nk_t2, nk_r3, nk_l3, nk_m3, nk_n3, nk_s3, nk_t3, nk_r4, nk_l4, nk_m4, nk_n4, nk_s4, nk_t4, nk_r6, nk_l6, nk_m6, nk_n6, nk_s6, nk_t6, nk_r7, nk_l7, nk_m7, nk_n7, nk_s7, nk_t7, nk_r8, nk_l8, nk_m8, nk_n8, nk_s8, nk_t8, nk_r12, nk_l12, nk_m12, nk_n12, nk_s12, nk_t12, nk_r31, nk_l31, nk_m31, nk_n31, nk_s31, nk_t31, nk_r32, nk_l32, nk_m32, nk_n32, nk_s32, nk_t32, nk_r59, nk_l59, nk_m59, nk_n59, nk_s59, nk_t59, nk_r60, nk_l60, nk_m60, nk_n60, nk_s60, nk_t60, nk_r96, nk_l96, nk_m96, nk_n96, nk_s96, nk_t96, nk_r97, nk_l97, nk_m97, nk_n97, nk_s97, nk_t97, nk_r120, nk_l120, nk_m120, nk_n120, nk_s120, nk_t120, nk_r240, nk_l240, nk_m240, nk_n240, nk_s240, nk_t240, nk_r255, nk_l255, nk_m255, nk_n255, nk_s255, nk_t255, nk_r256, nk_l256, nk_m256, nk_n256, nk_s256, nk_t256, Nat.add_zero, Nat.zero_add, Nat.mul_one, Nat.one_mul, Nat.mul_zero, Nat.zero_mul, Nat.sub_zero, Nat.reduceSub, Nat.reduceMul, Nat.add_sub_cancel, Bool.false_eq_true, Int.add_zero, Int.zero_add, Int.sub_zero, h0, hp0, e1, e2]
  | .mulR a v, x, hg, hx, hr => by
    obtain ⟨d, rfl⟩ : ∃ e, d = e + 1 := ⟨d - 1, by omega⟩
    have hx1 : x + 1 ≤ N := hx
    have hK : K x = 0 := (rep_hd hr).1
    refine np_leaf (c := 48) hd (by omega) ?_
    intro f m n o SG IT hp hs hn
    obtain ⟨f1, e1, a1, a2⟩ := s_put (d := d) (m := m) (by omega) hs hn 48
    refine ⟨f1, ?_, a1, a2⟩
    have e2 := s_kindN (d := d) (m := m) (by omega) hp hN (show x < N by omega)
    rw [hK] at e2
    have h0 := hs.1
    have hp0 := hp.1
    rw [zs_X4_putNode]
    simp (disch := omega) only [ze_X4_putNode_0, (ze_X4_putNode_5_0 rfl), (ze_X4_putNode_5_1 rfl), (ze_X4_putNode_5_2 rfl), (ze_X4_putNode_5_3 rfl), (ze_X4_putNode_5_4 rfl), (ze_X4_putNode_5_5 rfl), ze_X4_putNode_5_d, ze_X4_putNode_44, ze_X4_putNode_50, ze_X4_putNode_53, ze_X4_putNode_59, ze_X4_putNode_62, ze_X4_putNode_68, ze_X4_putNode_71, ze_X4_putNode_74, ze_X4_putNode_80, ze_X4_putNode_86, ze_X4_putNode_89, ze_X4_putNode_95, ze_X4_putNode_101, ze_X4_putNode_104, ze_X4_putNode_110, ze_X4_putNode_116, ze_X4_putNode_119, ze_X4_putNode_125, ze_X4_putNode_131, ze_X4_putNode_137, zcal_x, zfh_nil, zfh_cons, zset_0, zset_1, zset_s, zcal_v, zcal_n, zcalI_n, zco_O, zcf_O, zcs_O, zisc_O, zr8_A, zr8_S, zri_A, zri_B, zri_C, zrl_L, zrd_D, zrs_R, zgi_A, zgi_S, zgi_B, zgi_C, zgl_L, zgd_D, zisa_A, zisa_S, zisa_L, zisa_B, zisa_R, zln_A, zln_S, zln_L, zln_B, zln_R, zwi_A, zwl_L, zwd_D, zclr_i, zclr_r, zclr_l, zclr_d, zclr_n, zok_i, zok_l, zok_b0, zok_b1, I_add, I_sub, I_mul, I_neg, J_add, J_sub, J_mul, J_toI, I_ofNat, I_cl, I_J, I_ne2, zup_same, zup_up, zup_ne, zc1_eqB, zc1_neB, zret_b, zret_b0, zret_b1, List.getD_cons_zero, List.getD_cons_succ, List.length_cons, List.length_nil, List.set_cons_zero, List.set_cons_succ, Option.toList, List.cons_append, List.nil_append, Int.cast_ofNat_Int, decide_eq_true_eq, Bool.and_eq_true, and_self, true_and, and_true, if_true, if_false, not_true_eq_false, not_false_eq_true, ↓reduceIte, Nat.reduceAdd, Nat.reduceLT, Nat.reduceLeDiff, Nat.reduceEqDiff, Int.reduceAdd, Int.reduceSub, Int.reduceMul, Int.reduceNeg, Int.reduceLT, Int.reduceLE, Int.reduceEq, Int.reduceToNat, Int.toNat_natCast, Nat.lt_add_one, Nat.zero_lt_succ, q1_eq_t, q1_eq_f, q2_eq_t, q2_eq_f, ql_eq_t, ql_eq_f, q1_ne_t, q1_ne_f, q2_ne_t, q2_ne_f, ql_ne_t, ql_ne_f, q1_lt_t, q1_lt_f, q2_lt_t, q2_lt_f, ql_lt_t, ql_lt_f, q1_ge_t, q1_ge_f, q2_ge_t, q2_ge_f, ql_ge_t, ql_ge_f, q1_gt_t, q1_gt_f, q2_gt_t, q2_gt_f, ql_gt_t, ql_gt_f, q1_le_t, q1_le_f, q2_le_t, q2_le_f, ql_le_t, ql_le_f, zib_t, qb_t, qb_f, nk_add, nk_mul, nk_sub, nk_d1, nk_d0, nk_toNat, nk_r1, nk_l1, nk_m1, nk_n1, nk_s1, nk_t1, nk_r2, nk_l2, nk_m2, nk_n2, nk_s2, nk_t2, nk_r3, nk_l3, nk_m3, nk_n3, nk_s3, nk_t3, nk_r4, nk_l4, nk_m4, nk_n4, nk_s4, nk_t4, nk_r6, nk_l6, nk_m6, nk_n6, nk_s6, nk_t6, nk_r7, nk_l7, nk_m7, nk_n7, nk_s7, nk_t7, nk_r8, nk_l8, nk_m8, nk_n8, nk_s8, nk_t8, nk_r12, nk_l12, nk_m12, nk_n12, nk_s12, nk_t12, nk_r31, nk_l31, nk_m31, nk_n31, nk_s31, nk_t31, nk_r32, nk_l32, nk_m32, nk_n32, nk_s32, nk_t32, nk_r59, nk_l59, nk_m59, nk_n59, nk_s59, nk_t59, nk_r60, nk_l60, nk_m60, nk_n60, nk_s60, nk_t60, nk_r96, nk_l96, nk_m96, nk_n96, nk_s96, nk_t96, nk_r97, nk_l97, nk_m97, nk_n97, nk_s97, nk_t97, nk_r120, nk_l120, nk_m120, nk_n120, nk_s120, nk_t120, nk_r240, nk_l240, nk_m240, nk_n240, nk_s240, nk_t240, nk_r255, nk_l255, nk_m255, nk_n255, nk_s255, nk_t255, nk_r256, nk_l256, nk_m256, nk_n256, nk_s256, nk_t256, Nat.add_zero, Nat.zero_add, Nat.mul_one, Nat.one_mul, Nat.mul_zero, Nat.zero_mul, Nat.sub_zero, Nat.reduceSub, Nat.reduceMul, Nat.add_sub_cancel, Bool.false_eq_true, Int.add_zero, Int.zero_add, Int.sub_zero, h0, hp0, e1, e2]
  | .var v, x, hg, hx, hr => by
    obtain ⟨d, rfl⟩ : ∃ e, d = e + 1 := ⟨d - 1, by omega⟩
    have hx1 : x + 1 ≤ N := hx
    have hK : K x = 2 := (rep_hd hr).1
    have hL : L x = (v : Int) := (rep_cons.mp (show rep K L Z x [(2, v, 1)] from hr)).1.2.1
    obtain ⟨g1, g2⟩ := ltr_get hg
    refine np_leaf (c := v) hd (by omega) ?_
    intro f m n o SG IT hp hs hn
    obtain ⟨f1, e1, a1, a2⟩ := s_put (d := d) (m := m) (by omega) hs hn v
    refine ⟨f1, ?_, a1, a2⟩
    have e2 := s_kindN (d := d) (m := m) (by omega) hp hN (show x < N by omega)
    have e3 := s_letN (d := d) (m := m) (by omega) hp hN (show x < N by omega)
    rw [hK] at e2
    rw [hL] at e3
    have h0 := hs.1
    have hp0 := hp.1
    rw [zs_X4_putNode]
    simp (disch := omega) only [ze_X4_putNode_0, (ze_X4_putNode_5_0 rfl), (ze_X4_putNode_5_1 rfl), (ze_X4_putNode_5_2 rfl), (ze_X4_putNode_5_3 rfl), (ze_X4_putNode_5_4 rfl), (ze_X4_putNode_5_5 rfl), ze_X4_putNode_5_d, ze_X4_putNode_44, ze_X4_putNode_50, ze_X4_putNode_53, ze_X4_putNode_59, ze_X4_putNode_62, ze_X4_putNode_68, ze_X4_putNode_71, ze_X4_putNode_74, ze_X4_putNode_80, ze_X4_putNode_86, ze_X4_putNode_89, ze_X4_putNode_95, ze_X4_putNode_101, ze_X4_putNode_104, ze_X4_putNode_110, ze_X4_putNode_116, ze_X4_putNode_119, ze_X4_putNode_125, ze_X4_putNode_131, ze_X4_putNode_137, zcal_x, zfh_nil, zfh_cons, zset_0, zset_1, zset_s, zcal_v, zcal_n, zcalI_n, zco_O, zcf_O, zcs_O, zisc_O, zr8_A, zr8_S, zri_A, zri_B, zri_C, zrl_L, zrd_D, zrs_R, zgi_A, zgi_S, zgi_B, zgi_C, zgl_L, zgd_D, zisa_A, zisa_S, zisa_L, zisa_B, zisa_R, zln_A, zln_S, zln_L, zln_B, zln_R, zwi_A, zwl_L, zwd_D, zclr_i, zclr_r, zclr_l, zclr_d, zclr_n, zok_i, zok_l, zok_b0, zok_b1, I_add, I_sub, I_mul, I_neg, J_add, J_sub, J_mul, J_toI, I_ofNat, I_cl, I_J, I_ne2, zup_same, zup_up, zup_ne, zc1_eqB, zc1_neB, zret_b, zret_b0, zret_b1, List.getD_cons_zero, List.getD_cons_succ, List.length_cons, List.length_nil, List.set_cons_zero, List.set_cons_succ, Option.toList, List.cons_append, List.nil_append, Int.cast_ofNat_Int, decide_eq_true_eq, Bool.and_eq_true, and_self, true_and, and_true, if_true, if_false, not_true_eq_false, not_false_eq_true, ↓reduceIte, Nat.reduceAdd, Nat.reduceLT, Nat.reduceLeDiff, Nat.reduceEqDiff, Int.reduceAdd, Int.reduceSub, Int.reduceMul, Int.reduceNeg, Int.reduceLT, Int.reduceLE, Int.reduceEq, Int.reduceToNat, Int.toNat_natCast, Nat.lt_add_one, Nat.zero_lt_succ, q1_eq_t, q1_eq_f, q2_eq_t, q2_eq_f, ql_eq_t, ql_eq_f, q1_ne_t, q1_ne_f, q2_ne_t, q2_ne_f, ql_ne_t, ql_ne_f, q1_lt_t, q1_lt_f, q2_lt_t, q2_lt_f, ql_lt_t, ql_lt_f, q1_ge_t, q1_ge_f, q2_ge_t, q2_ge_f, ql_ge_t, ql_ge_f, q1_gt_t, q1_gt_f, q2_gt_t, q2_gt_f, ql_gt_t, ql_gt_f, q1_le_t, q1_le_f, q2_le_t, q2_le_f, ql_le_t, ql_le_f, zib_t, qb_t, qb_f, nk_add, nk_mul, nk_sub, nk_d1, nk_d0, nk_toNat, nk_r1, nk_l1, nk_m1, nk_n1, nk_s1, nk_t1, nk_r2, nk_l2, nk_m2, nk_n2, nk_s2, nk_t2, nk_r3, nk_l3, nk_m3, nk_n3, nk_s3, nk_t3, nk_r4, nk_l4, nk_m4, nk_n4, nk_s4, nk_t4, nk_r6, nk_l6, nk_m6, nk_n6, nk_s6, nk_t6, nk_r7, nk_l7, nk_m7, nk_n7, nk_s7, nk_t7, nk_r8, nk_l8, nk_m8, nk_n8, nk_s8, nk_t8, nk_r12, nk_l12, nk_m12, nk_n12, nk_s12, nk_t12, nk_r31, nk_l31, nk_m31, nk_n31, nk_s31, nk_t31, nk_r32, nk_l32, nk_m32, nk_n32, nk_s32, nk_t32, nk_r59, nk_l59, nk_m59, nk_n59, nk_s59, nk_t59, nk_r60, nk_l60, nk_m60, nk_n60, nk_s60, nk_t60, nk_r96, nk_l96, nk_m96, nk_n96, nk_s96, nk_t96, nk_r97, nk_l97, nk_m97, nk_n97, nk_s97, nk_t97, nk_r120, nk_l120, nk_m120, nk_n120, nk_s120, nk_t120, nk_r240, nk_l240, nk_m240, nk_n240, nk_s240, nk_t240, nk_r255, nk_l255, nk_m255, nk_n255, nk_s255, nk_t255, nk_r256, nk_l256, nk_m256, nk_n256, nk_s256, nk_t256, Nat.add_zero, Nat.zero_add, Nat.mul_one, Nat.one_mul, Nat.mul_zero, Nat.zero_mul, Nat.sub_zero, Nat.reduceSub, Nat.reduceMul, Nat.add_sub_cancel, Bool.false_eq_true, Int.add_zero, Int.zero_add, Int.sub_zero, h0, hp0, e1, e2, e3]
  | .neg p, x, hg, hx, hr => by
    have hx1 : x + (sz p + 1) ≤ N := hx
    obtain ⟨r1, r2⟩ := rep_cons.mp (show rep K L Z x ((3, 0, sz p + 1) :: nd p) from hr)
    have ih := np_tree hd hN p (x + 1) hg (by omega) r2
    have hK : K x = ((3 : Nat) : Int) := r1.1
    have hsp := sz_pos p
    have i1 := np_itm (b := decide (3 ≤ kd p)) (by omega) ih
    have i2 : NP d N K L Z _ _ ([-63] ++ itm (decide (3 ≤ kd p)) (x + 1)) := np_app (np_sign (c := 63) (N := N) (K := K) (L := L) (Z := Z) (show 1 ≤ d by omega) (show 1 ≤ 63 by omega) (by omega)) i1
    obtain ⟨d, rfl⟩ : ∃ e, d = e + 1 := ⟨d - 1, by omega⟩
    refine np_node hd (by omega) ?_ i2
    intro f m n o SG IT hp hs ho
    have hil := i1.1
    have hc1 : 1 ≤ ct p := ih.1
    have hl1 := itm_len (b := decide (3 ≤ kd p)) (x := x + 1)
    obtain ⟨f1, e1, a1, a2⟩ := s_leave (d := d) (m := m) (by omega) hs (by omega) (-63)
    obtain ⟨f2, IT2, e2, b1, b2, b3, b4⟩ := s_leaveFirst (d := d) (m := m) (p := p) (x := x) (k := 3) (b := decide (3 ≤ kd p)) (by omega) a1 (by omega) (fre_pat a2 hp (by omega)) hN (by omega) hK (by omega) (rep_hd r2).1 (decide_eq_decide.mpr (by omega))
    refine ⟨f2, IT2, ?_, by rw [List.length_append, show o + ([-63].length + (itm (decide (3 ≤ kd p)) (x + 1)).length) = o + 1 + (itm (decide (3 ≤ kd p)) (x + 1)).length by rw [List.length_singleton]; omega]; exact b1, fre_trans a2 b2, (stk_app _ _).mpr ⟨stk_one.mpr ((b4 o (by omega)).trans zst_same), b3⟩, fun i hi => (b4 i (by omega)).trans (zst_ne (by omega))⟩
    have e4 := s_kindN (d := d) (m := m) (by omega) hp hN (show x < N by omega)
    rw [hK] at e4
    have h0 := hs.1
    have hp0 := hp.1
    have h1 := a1.1
    have hp1 := (fre_pat a2 hp (by omega)).1
    rw [zs_X4_putNode]
    simp (disch := omega) only [ze_X4_putNode_0, (ze_X4_putNode_5_0 rfl), (ze_X4_putNode_5_1 rfl), (ze_X4_putNode_5_2 rfl), (ze_X4_putNode_5_3 rfl), (ze_X4_putNode_5_4 rfl), (ze_X4_putNode_5_5 rfl), ze_X4_putNode_5_d, ze_X4_putNode_44, ze_X4_putNode_50, ze_X4_putNode_53, ze_X4_putNode_59, ze_X4_putNode_62, ze_X4_putNode_68, ze_X4_putNode_71, ze_X4_putNode_74, ze_X4_putNode_80, ze_X4_putNode_86, ze_X4_putNode_89, ze_X4_putNode_95, ze_X4_putNode_101, ze_X4_putNode_104, ze_X4_putNode_110, ze_X4_putNode_116, ze_X4_putNode_119, ze_X4_putNode_125, ze_X4_putNode_131, ze_X4_putNode_137, zcal_x, zfh_nil, zfh_cons, zset_0, zset_1, zset_s, zcal_v, zcal_n, zcalI_n, zco_O, zcf_O, zcs_O, zisc_O, zr8_A, zr8_S, zri_A, zri_B, zri_C, zrl_L, zrd_D, zrs_R, zgi_A, zgi_S, zgi_B, zgi_C, zgl_L, zgd_D, zisa_A, zisa_S, zisa_L, zisa_B, zisa_R, zln_A, zln_S, zln_L, zln_B, zln_R, zwi_A, zwl_L, zwd_D, zclr_i, zclr_r, zclr_l, zclr_d, zclr_n, zok_i, zok_l, zok_b0, zok_b1, I_add, I_sub, I_mul, I_neg, J_add, J_sub, J_mul, J_toI, I_ofNat, I_cl, I_J, I_ne2, zup_same, zup_up, zup_ne, zc1_eqB, zc1_neB, zret_b, zret_b0, zret_b1, List.getD_cons_zero, List.getD_cons_succ, List.length_cons, List.length_nil, List.set_cons_zero, List.set_cons_succ, Option.toList, List.cons_append, List.nil_append, Int.cast_ofNat_Int, decide_eq_true_eq, Bool.and_eq_true, and_self, true_and, and_true, if_true, if_false, not_true_eq_false, not_false_eq_true, ↓reduceIte, Nat.reduceAdd, Nat.reduceLT, Nat.reduceLeDiff, Nat.reduceEqDiff, Int.reduceAdd, Int.reduceSub, Int.reduceMul, Int.reduceNeg, Int.reduceLT, Int.reduceLE, Int.reduceEq, Int.reduceToNat, Int.toNat_natCast, Nat.lt_add_one, Nat.zero_lt_succ, q1_eq_t, q1_eq_f, q2_eq_t, q2_eq_f, ql_eq_t, ql_eq_f, q1_ne_t, q1_ne_f, q2_ne_t, q2_ne_f, ql_ne_t, ql_ne_f, q1_lt_t, q1_lt_f, q2_lt_t, q2_lt_f, ql_lt_t, ql_lt_f, q1_ge_t, q1_ge_f, q2_ge_t, q2_ge_f, ql_ge_t, ql_ge_f, q1_gt_t, q1_gt_f, q2_gt_t, q2_gt_f, ql_gt_t, ql_gt_f, q1_le_t, q1_le_f, q2_le_t, q2_le_f, ql_le_t, ql_le_f, zib_t, qb_t, qb_f, nk_add, nk_mul, nk_sub, nk_d1, nk_d0, nk_toNat, nk_r1, nk_l1, nk_m1, nk_n1, nk_s1, nk_t1, nk_r2, nk_l2, nk_m2, nk_n2, nk_s2, nk_t2, nk_r3, nk_l3, nk_m3, nk_n3, nk_s3, nk_t3, nk_r4, nk_l4, nk_m4, nk_n4, nk_s4, nk_t4, nk_r6, nk_l6, nk_m6, nk_n6, nk_s6, nk_t6, nk_r7, nk_l7, nk_m7, nk_n7, nk_s7, nk_t7, nk_r8, nk_l8, nk_m8, nk_n8, nk_s8, nk_t8, nk_r12, nk_l12, nk_m12, nk_n12, nk_s12, nk_t12, nk_r31, nk_l31, nk_m31, nk_n31, nk_s31, nk_t31, nk_r32, nk_l32, nk_m32, nk_n32, nk_s32, nk_t32, nk_r59, nk_l59, nk_m59, nk_n59, nk_s59, nk_t59, nk_r60, nk_l60, nk_m60, nk_n60, nk_s60, nk_t60, nk_r96, nk_l96, nk_m96, nk_n96, nk_s96, nk_t96, nk_r97, nk_l97, nk_m97, nk_n97, nk_s97, nk_t97, nk_r120, nk_l120, nk_m120, nk_n120, nk_s120, nk_t120, nk_r240, nk_l240, nk_m240, nk_n240, nk_s240, nk_t240, nk_r255, nk_l255, nk_m255, nk_n255, nk_s255, nk_t255, nk_r256, nk_l256, nk_m256, nk_n256, nk_s256, nk_t256, Nat.add_zero, Nat.zero_add, Nat.mul_one, Nat.one_mul, Nat.mul_zero, Nat.zero_mul, Nat.sub_zero, Nat.reduceSub, Nat.reduceMul, Nat.add_sub_cancel, Bool.false_eq_true, Int.add_zero, Int.zero_add, Int.sub_zero, h0, hp0, h1, hp1, e1, e2, e4]
  | .mulL w p, x, hg, hx, hr => by
    have hx1 : x + (sz p + 1) ≤ N := hx
    obtain ⟨r1, r2⟩ := rep_cons.mp (show rep K L Z x ((4, 0, sz p + 1) :: nd p) from hr)
    have ih := np_tree hd hN p (x + 1) hg (by omega) r2
    have hK : K x = ((4 : Nat) : Int) := r1.1
    have hsp := sz_pos p
    have i1 := np_itm (b := decide (3 ≤ kd p)) (by omega) ih
    have i2 : NP d N K L Z _ _ ([-42] ++ itm (decide (3 ≤ kd p)) (x + 1)) := np_app (np_sign (c := 42) (N := N) (K := K) (L := L) (Z := Z) (show 1 ≤ d by omega) (show 1 ≤ 42 by omega) (by omega)) i1
    obtain ⟨d, rfl⟩ : ∃ e, d = e + 1 := ⟨d - 1, by omega⟩
    refine np_node hd (by omega) ?_ i2
    intro f m n o SG IT hp hs ho
    have hil := i1.1
    have hc1 : 1 ≤ ct p := ih.1
    have hl1 := itm_len (b := decide (3 ≤ kd p)) (x := x + 1)
    obtain ⟨f1, e1, a1, a2⟩ := s_leave (d := d) (m := m) (by omega) hs (by omega) (-42)
    obtain ⟨f2, IT2, e2, b1, b2, b3, b4⟩ := s_leaveFirst (d := d) (m := m) (p := p) (x := x) (k := 4) (b := decide (3 ≤ kd p)) (by omega) a1 (by omega) (fre_pat a2 hp (by omega)) hN (by omega) hK (by omega) (rep_hd r2).1 (decide_eq_decide.mpr (by omega))
    refine ⟨f2, IT2, ?_, by rw [List.length_append, show o + ([-42].length + (itm (decide (3 ≤ kd p)) (x + 1)).length) = o + 1 + (itm (decide (3 ≤ kd p)) (x + 1)).length by rw [List.length_singleton]; omega]; exact b1, fre_trans a2 b2, (stk_app _ _).mpr ⟨stk_one.mpr ((b4 o (by omega)).trans zst_same), b3⟩, fun i hi => (b4 i (by omega)).trans (zst_ne (by omega))⟩
    have e4 := s_kindN (d := d) (m := m) (by omega) hp hN (show x < N by omega)
    rw [hK] at e4
    have h0 := hs.1
    have hp0 := hp.1
    have h1 := a1.1
    have hp1 := (fre_pat a2 hp (by omega)).1
    rw [zs_X4_putNode]
    simp (disch := omega) only [ze_X4_putNode_0, (ze_X4_putNode_5_0 rfl), (ze_X4_putNode_5_1 rfl), (ze_X4_putNode_5_2 rfl), (ze_X4_putNode_5_3 rfl), (ze_X4_putNode_5_4 rfl), (ze_X4_putNode_5_5 rfl), ze_X4_putNode_5_d, ze_X4_putNode_44, ze_X4_putNode_50, ze_X4_putNode_53, ze_X4_putNode_59, ze_X4_putNode_62, ze_X4_putNode_68, ze_X4_putNode_71, ze_X4_putNode_74, ze_X4_putNode_80, ze_X4_putNode_86, ze_X4_putNode_89, ze_X4_putNode_95, ze_X4_putNode_101, ze_X4_putNode_104, ze_X4_putNode_110, ze_X4_putNode_116, ze_X4_putNode_119, ze_X4_putNode_125, ze_X4_putNode_131, ze_X4_putNode_137, zcal_x, zfh_nil, zfh_cons, zset_0, zset_1, zset_s, zcal_v, zcal_n, zcalI_n, zco_O, zcf_O, zcs_O, zisc_O, zr8_A, zr8_S, zri_A, zri_B, zri_C, zrl_L, zrd_D, zrs_R, zgi_A, zgi_S, zgi_B, zgi_C, zgl_L, zgd_D, zisa_A, zisa_S, zisa_L, zisa_B, zisa_R, zln_A, zln_S, zln_L, zln_B, zln_R, zwi_A, zwl_L, zwd_D, zclr_i, zclr_r, zclr_l, zclr_d, zclr_n, zok_i, zok_l, zok_b0, zok_b1, I_add, I_sub, I_mul, I_neg, J_add, J_sub, J_mul, J_toI, I_ofNat, I_cl, I_J, I_ne2, zup_same, zup_up, zup_ne, zc1_eqB, zc1_neB, zret_b, zret_b0, zret_b1, List.getD_cons_zero, List.getD_cons_succ, List.length_cons, List.length_nil, List.set_cons_zero, List.set_cons_succ, Option.toList, List.cons_append, List.nil_append, Int.cast_ofNat_Int, decide_eq_true_eq, Bool.and_eq_true, and_self, true_and, and_true, if_true, if_false, not_true_eq_false, not_false_eq_true, ↓reduceIte, Nat.reduceAdd, Nat.reduceLT, Nat.reduceLeDiff, Nat.reduceEqDiff, Int.reduceAdd, Int.reduceSub, Int.reduceMul, Int.reduceNeg, Int.reduceLT, Int.reduceLE, Int.reduceEq, Int.reduceToNat, Int.toNat_natCast, Nat.lt_add_one, Nat.zero_lt_succ, q1_eq_t, q1_eq_f, q2_eq_t, q2_eq_f, ql_eq_t, ql_eq_f, q1_ne_t, q1_ne_f, q2_ne_t, q2_ne_f, ql_ne_t, ql_ne_f, q1_lt_t, q1_lt_f, q2_lt_t, q2_lt_f, ql_lt_t, ql_lt_f, q1_ge_t, q1_ge_f, q2_ge_t, q2_ge_f, ql_ge_t, ql_ge_f, q1_gt_t, q1_gt_f, q2_gt_t, q2_gt_f, ql_gt_t, ql_gt_f, q1_le_t, q1_le_f, q2_le_t, q2_le_f, ql_le_t, ql_le_f, zib_t, qb_t, qb_f, nk_add, nk_mul, nk_sub, nk_d1, nk_d0, nk_toNat, nk_r1, nk_l1, nk_m1, nk_n1, nk_s1, nk_t1, nk_r2, nk_l2, nk_m2, nk_n2, nk_s2, nk_t2, nk_r3, nk_l3, nk_m3, nk_n3, nk_s3, nk_t3, nk_r4, nk_l4, nk_m4, nk_n4, nk_s4, nk_t4, nk_r6, nk_l6, nk_m6, nk_n6, nk_s6, nk_t6, nk_r7, nk_l7, nk_m7, nk_n7, nk_s7, nk_t7, nk_r8, nk_l8, nk_m8, nk_n8, nk_s8, nk_t8, nk_r12, nk_l12, nk_m12, nk_n12, nk_s12, nk_t12, nk_r31, nk_l31, nk_m31, nk_n31, nk_s31, nk_t31, nk_r32, nk_l32, nk_m32, nk_n32, nk_s32, nk_t32, nk_r59, nk_l59, nk_m59, nk_n59, nk_s59, nk_t59, nk_r60, nk_l60, nk_m60, nk_n60, nk_s60, nk_t60, nk_r96, nk_l96, nk_m96, nk_n96, nk_s96, nk_t96, nk_r97, nk_l97, nk_m97, nk_n97, nk_s97, nk_t97, nk_r120, nk_l120, nk_m120, nk_n120, nk_s120, nk_t120, nk_r240, nk_l240, nk_m240, nk_n240, nk_s240, nk_t240, nk_r255, nk_l255, nk_m255, nk_n255, nk_s255, nk_t255, nk_r256, nk_l256, nk_m256, nk_n256, nk_s256, nk_t256, Nat.add_zero, Nat.zero_add, Nat.mul_one, Nat.one_mul, Nat.mul_zero, Nat.zero_mul, Nat.sub_zero, Nat.reduceSub, Nat.reduceMul, Nat.add_sub_cancel, Bool.false_eq_true, Int.add_zero, Int.zero_add, Int.sub_zero, h0, hp0, h1, hp1, e1, e2, e4]
  | .sub p q, x, hg, hx, hr => by
    have hx1 : x + (sz p + sz q + 1) ≤ N := hx
    obtain ⟨r1, r2⟩ := rep_cons.mp (show rep K L Z x ((5, 0, sz p + sz q + 1) :: (nd p ++ nd q)) from hr)
    obtain ⟨r2, r3⟩ := (rep_app _ _).mp r2
    rw [nd_len] at r3
    have hK : K x = ((5 : Nat) : Int) := r1.1
    have hsp := sz_pos p
    have hsq := sz_pos q
    have ih1 := np_itm (b := decide (kd p = 6)) (by omega) (np_tree hd hN p (x + 1) hg.1 (by omega) r2)
    have ih2 := np_itm (b := decide (5 ≤ kd q)) (by omega) (np_tree hd hN q (x + 1 + sz p) hg.2 (by omega) r3)
    have i2 := np_app ih2 ih1
    have hkq := kd_lt q
    have hc1 : 1 ≤ ct p := (np_tree hd hN p (x + 1) hg.1 (by omega) r2).1
    have hc2 : 1 ≤ ct q := (np_tree hd hN q (x + 1 + sz p) hg.2 (by omega) r3).1
    obtain ⟨d, rfl⟩ : ∃ e, d = e + 1 := ⟨d - 1, by omega⟩
    refine np_node hd (by omega) ?_ i2
    intro f m n o SG IT hp hs ho
    have hil := ih1.1
    have hil2 := ih2.1
    have hl1 := itm_len (b := decide (kd p = 6)) (x := x + 1)
    have hl2 := itm_len (b := decide (5 ≤ kd q)) (x := x + 1 + sz p)
    have hb1 : (itm (decide (kd p = 6)) (x + 1)).length = 1 + cb (decide (kd p = 6)) := by unfold itm cb; split <;> rfl
    have hb2 : (itm (decide (5 ≤ kd q)) (x + 1 + sz p)).length = 1 + cb (decide (5 ≤ kd q)) := by unfold itm cb; split <;> rfl
    obtain ⟨f1, IT1, e1, a1, a2, a3, a4⟩ := s_leaveSecond (d := d) (m := m) (q := q) (x := x) (k := 5) (z := sz p) (b := decide (5 ≤ kd q)) (by omega) hs (by omega) hp hN (by omega) hK (by omega) (rep_hd r2).2 (rep_hd r3).1 (decide_eq_decide.mpr (by omega))
    obtain ⟨f2, IT2, e2, b1, b2, b3, b4⟩ := s_leaveFirst (d := d) (m := m) (p := p) (x := x) (k := 5) (b := decide (kd p = 6)) (by omega) a1 (by omega) (fre_pat a2 hp (by omega)) hN (by omega) hK (by omega) (rep_hd r2).1 (decide_eq_decide.mpr (by omega))
    refine ⟨f2, IT2, ?_, by rw [List.length_append, ← Nat.add_assoc]; exact b1, fre_trans a2 b2, (stk_app _ _).mpr ⟨fun i hi => (b4 _ (by omega)).trans (a3 i hi), b3⟩, fun i hi => (b4 i (by omega)).trans (a4 i hi)⟩
    have e4 := s_kindN (d := d) (m := m) (by omega) hp hN (show x < N by omega)
    rw [hK] at e4
    have h0 := hs.1
    have hp0 := hp.1
    have h1 := a1.1
    have hp1 := (fre_pat a2 hp (by omega)).1
    rw [zs_X4_putNode]
    simp (disch := omega) only [ze_X4_putNode_0, (ze_X4_putNode_5_0 rfl), (ze_X4_putNode_5_1 rfl), (ze_X4_putNode_5_2 rfl), (ze_X4_putNode_5_3 rfl), (ze_X4_putNode_5_4 rfl), (ze_X4_putNode_5_5 rfl), ze_X4_putNode_5_d, ze_X4_putNode_44, ze_X4_putNode_50, ze_X4_putNode_53, ze_X4_putNode_59, ze_X4_putNode_62, ze_X4_putNode_68, ze_X4_putNode_71, ze_X4_putNode_74, ze_X4_putNode_80, ze_X4_putNode_86, ze_X4_putNode_89, ze_X4_putNode_95, ze_X4_putNode_101, ze_X4_putNode_104, ze_X4_putNode_110, ze_X4_putNode_116, ze_X4_putNode_119, ze_X4_putNode_125, ze_X4_putNode_131, ze_X4_putNode_137, zcal_x, zfh_nil, zfh_cons, zset_0, zset_1, zset_s, zcal_v, zcal_n, zcalI_n, zco_O, zcf_O, zcs_O, zisc_O, zr8_A, zr8_S, zri_A, zri_B, zri_C, zrl_L, zrd_D, zrs_R, zgi_A, zgi_S, zgi_B, zgi_C, zgl_L, zgd_D, zisa_A, zisa_S, zisa_L, zisa_B, zisa_R, zln_A, zln_S, zln_L, zln_B, zln_R, zwi_A, zwl_L, zwd_D, zclr_i, zclr_r, zclr_l, zclr_d, zclr_n, zok_i, zok_l, zok_b0, zok_b1, I_add, I_sub, I_mul, I_neg, J_add, J_sub, J_mul, J_toI, I_ofNat, I_cl, I_J, I_ne2, zup_same, zup_up, zup_ne, zc1_eqB, zc1_neB, zret_b, zret_b0, zret_b1, List.getD_cons_zero, List.getD_cons_succ, List.length_cons, List.length_nil, List.set_cons_zero, List.set_cons_succ, Option.toList, List.cons_append, List.nil_append, Int.cast_ofNat_Int, decide_eq_true_eq, Bool.and_eq_true, and_self, true_and, and_true, if_true, if_false, not_true_eq_false, not_false_eq_true, ↓reduceIte, Nat.reduceAdd, Nat.reduceLT, Nat.reduceLeDiff, Nat.reduceEqDiff, Int.reduceAdd, Int.reduceSub, Int.reduceMul, Int.reduceNeg, Int.reduceLT, Int.reduceLE, Int.reduceEq, Int.reduceToNat, Int.toNat_natCast, Nat.lt_add_one, Nat.zero_lt_succ, q1_eq_t, q1_eq_f, q2_eq_t, q2_eq_f, ql_eq_t, ql_eq_f, q1_ne_t, q1_ne_f, q2_ne_t, q2_ne_f, ql_ne_t, ql_ne_f, q1_lt_t, q1_lt_f, q2_lt_t, q2_lt_f, ql_lt_t, ql_lt_f, q1_ge_t, q1_ge_f, q2_ge_t, q2_ge_f, ql_ge_t, ql_ge_f, q1_gt_t, q1_gt_f, q2_gt_t, q2_gt_f, ql_gt_t, ql_gt_f, q1_le_t, q1_le_f, q2_le_t, q2_le_f, ql_le_t, ql_le_f, zib_t, qb_t, qb_f, nk_add, nk_mul, nk_sub, nk_d1, nk_d0, nk_toNat, nk_r1, nk_l1, nk_m1, nk_n1, nk_s1, nk_t1, nk_r2, nk_l2, nk_m2, nk_n2, nk_s2, nk_t2, nk_r3, nk_l3, nk_m3, nk_n3, nk_s3, nk_t3, nk_r4, nk_l4, nk_m4, nk_n4, nk_s4, nk_t4, nk_r6, nk_l6, nk_m6, nk_n6, nk_s6, nk_t6, nk_r7, nk_l7, nk_m7, nk_n7, nk_s7, nk_t7, nk_r8, nk_l8, nk_m8, nk_n8, nk_s8, nk_t8, nk_r12, nk_l12, nk_m12, nk_n12, nk_s12, nk_t12, nk_r31, nk_l31, nk_m31, nk_n31, nk_s31, nk_t31, nk_r32, nk_l32, nk_m32, nk_n32, nk_s32, nk_t32, nk_r59, nk_l59, nk_m59, nk_n59, nk_s59, nk_t59, nk_r60, nk_l60, nk_m60, nk_n60, nk_s60, nk_t60, nk_r96, nk_l96, nk_m96, nk_n96, nk_s96, nk_t96, nk_r97, nk_l97, nk_m97, nk_n97, nk_s97, nk_t97, nk_r120, nk_l120, nk_m120, nk_n120, nk_s120, nk_t120, nk_r240, nk_l240, nk_m240, nk_n240, nk_s240, nk_t240, nk_r255, nk_l255, nk_m255, nk_n255, nk_s255, nk_t255, nk_r256, nk_l256, nk_m256, nk_n256, nk_s256, nk_t256, Nat.add_zero, Nat.zero_add, Nat.mul_one, Nat.one_mul, Nat.mul_zero, Nat.zero_mul, Nat.sub_zero, Nat.reduceSub, Nat.reduceMul, Nat.add_sub_cancel, Bool.false_eq_true, Int.add_zero, Int.zero_add, Int.sub_zero, h0, hp0, h1, hp1, e1, e2, e4]
  | .add p q, x, hg, hx, hr => by
    have hx1 : x + (sz p + sz q + 1) ≤ N := hx
    obtain ⟨r1, r2⟩ := rep_cons.mp (show rep K L Z x ((6, 0, sz p + sz q + 1) :: (nd p ++ nd q)) from hr)
    obtain ⟨r2, r3⟩ := (rep_app _ _).mp r2
    rw [nd_len] at r3
    have hK : K x = ((6 : Nat) : Int) := r1.1
    have hsp := sz_pos p
    have hsq := sz_pos q
    have ih1 := np_tree hd hN p (x + 1) hg.1 (by omega) r2
    have ih2 := np_itm (b := decide (kd q = 6)) (by omega) (np_tree hd hN q (x + 1 + sz p) hg.2 (by omega) r3)
    have i3 : NP d N K L Z _ _ ([-124] ++ itm false (x + 1)) := np_app (np_sign (c := 124) (N := N) (K := K) (L := L) (Z := Z) (show 1 ≤ d by omega) (show 1 ≤ 124 by omega) (by omega)) ih1
    have i2 : NP d N K L Z _ _ (itm (decide (kd q = 6)) (x + 1 + sz p) ++ ([-124] ++ itm false (x + 1))) := np_app ih2 i3
    have ha : (tx p ++ [124]) ++ brk (decide (kd q = 6)) (tx q) = tx (.add p q) := by rw [List.append_assoc]; rfl
    rw [ha] at i2
    have hkq := kd_lt q
    have hc2 : 1 ≤ ct q := (np_tree hd hN q (x + 1 + sz p) hg.2 (by omega) r3).1
    obtain ⟨d, rfl⟩ : ∃ e, d = e + 1 := ⟨d - 1, by omega⟩
    refine np_node hd (by omega) ?_ i2
    intro f m n o SG IT hp hs ho
    have hl2 := itm_len (b := decide (kd q = 6)) (x := x + 1 + sz p)
    have hc1 : 1 ≤ ct p := ih1.1
    have hb2 : (itm (decide (kd q = 6)) (x + 1 + sz p)).length = 1 + cb (decide (kd q = 6)) := by unfold itm cb; split <;> rfl
    obtain ⟨f1, IT1, e1, a1, a2, a3, a4⟩ := s_leaveSecond (d := d) (m := m) (q := q) (x := x) (k := 6) (z := sz p) (b := decide (kd q = 6)) (by omega) hs (by omega) hp hN (by omega) hK (by omega) (rep_hd r2).2 (rep_hd r3).1 (decide_eq_decide.mpr (by omega))
    obtain ⟨f3, e3, c1, c2⟩ := s_leave (d := d) (m := m) (by omega) a1 (by omega) (-124)
    obtain ⟨f2, IT2, e2, b1, b2, b3, b4⟩ := s_leaveFirst (d := d) (m := m) (p := p) (x := x) (k := 6) (b := false) (by omega) c1 (by omega) (fre_pat (fre_trans a2 c2) hp (by omega)) hN (by omega) hK (by omega) (rep_hd r2).1 (decide_eq_false (by omega)).symm
    refine ⟨f2, IT2, ?_, by rw [List.length_append, List.length_append, List.length_singleton, show ∀ a b c : Nat, a + (b + (1 + c)) = a + b + 1 + c from fun a b c => by omega]; exact b1, fre_trans a2 (fre_trans c2 b2), (stk_app _ _).mpr ⟨fun i hi => (b4 _ (by omega)).trans ((zst_ne (by omega)).trans (a3 i hi)), (stk_app _ _).mpr ⟨stk_one.mpr ((b4 _ (by omega)).trans zst_same), b3⟩⟩, fun i hi => (b4 i (by omega)).trans ((zst_ne (by omega)).trans (a4 i hi))⟩
    have e4 := s_kindN (d := d) (m := m) (by omega) hp hN (show x < N by omega)
    rw [hK] at e4
    have h0 := hs.1
    have hp0 := hp.1
    have h1 := a1.1
    have h3 := c1.1
    have hp1 := (fre_pat a2 hp (by omega)).1
    have hp3 := (fre_pat (fre_trans a2 c2) hp (by omega)).1
    have hs6 := sw6
    rw [zs_X4_putNode]
    simp (disch := omega) only [ze_X4_putNode_0, (ze_X4_putNode_5_0 rfl), (ze_X4_putNode_5_1 rfl), (ze_X4_putNode_5_2 rfl), (ze_X4_putNode_5_3 rfl), (ze_X4_putNode_5_4 rfl), (ze_X4_putNode_5_5 rfl), ze_X4_putNode_5_d, ze_X4_putNode_44, ze_X4_putNode_50, ze_X4_putNode_53, ze_X4_putNode_59, ze_X4_putNode_62, ze_X4_putNode_68, ze_X4_putNode_71, ze_X4_putNode_74, ze_X4_putNode_80, ze_X4_putNode_86, ze_X4_putNode_89, ze_X4_putNode_95, ze_X4_putNode_101, ze_X4_putNode_104, ze_X4_putNode_110, ze_X4_putNode_116, ze_X4_putNode_119, ze_X4_putNode_125, ze_X4_putNode_131, ze_X4_putNode_137, ze_X4_putNode_5_d hs6, zcal_x, zfh_nil, zfh_cons, zset_0, zset_1, zset_s, zcal_v, zcal_n, zcalI_n, zco_O, zcf_O, zcs_O, zisc_O, zr8_A, zr8_S, zri_A, zri_B, zri_C, zrl_L, zrd_D, zrs_R, zgi_A, zgi_S, zgi_B, zgi_C, zgl_L, zgd_D, zisa_A, zisa_S, zisa_L, zisa_B, zisa_R, zln_A, zln_S, zln_L, zln_B, zln_R, zwi_A, zwl_L, zwd_D, zclr_i, zclr_r, zclr_l, zclr_d, zclr_n, zok_i, zok_l, zok_b0, zok_b1, I_add, I_sub, I_mul, I_neg, J_add, J_sub, J_mul, J_toI, I_ofNat, I_cl, I_J, I_ne2, zup_same, zup_up, zup_ne, zc1_eqB, zc1_neB, zret_b, zret_b0, zret_b1, List.getD_cons_zero, List.getD_cons_succ, List.length_cons, List.length_nil, List.set_cons_zero, List.set_cons_succ, Option.toList, List.cons_append, List.nil_append, Int.cast_ofNat_Int, decide_eq_true_eq, Bool.and_eq_true, and_self, true_and, and_true, if_true, if_false, not_true_eq_false, not_false_eq_true, ↓reduceIte, Nat.reduceAdd, Nat.reduceLT, Nat.reduceLeDiff, Nat.reduceEqDiff, Int.reduceAdd, Int.reduceSub, Int.reduceMul, Int.reduceNeg, Int.reduceLT, Int.reduceLE, Int.reduceEq, Int.reduceToNat, Int.toNat_natCast, Nat.lt_add_one, Nat.zero_lt_succ, q1_eq_t, q1_eq_f, q2_eq_t, q2_eq_f, ql_eq_t, ql_eq_f, q1_ne_t, q1_ne_f, q2_ne_t, q2_ne_f, ql_ne_t, ql_ne_f, q1_lt_t, q1_lt_f, q2_lt_t, q2_lt_f, ql_lt_t, ql_lt_f, q1_ge_t, q1_ge_f, q2_ge_t, q2_ge_f, ql_ge_t, ql_ge_f, q1_gt_t, q1_gt_f, q2_gt_t, q2_gt_f, ql_gt_t, ql_gt_f, q1_le_t, q1_le_f, q2_le_t, q2_le_f, ql_le_t, ql_le_f, zib_t, qb_t, qb_f, nk_add, nk_mul, nk_sub, nk_d1, nk_d0, nk_toNat, nk_r1, nk_l1, nk_m1, nk_n1, nk_s1, nk_t1, nk_r2, nk_l2, nk_m2, nk_n2, nk_s2, nk_t2, nk_r3, nk_l3, nk_m3, nk_n3, nk_s3, nk_t3, nk_r4, nk_l4, nk_m4, nk_n4, nk_s4, nk_t4, nk_r6, nk_l6, nk_m6, nk_n6, nk_s6, nk_t6, nk_r7, nk_l7, nk_m7, nk_n7, nk_s7, nk_t7, nk_r8, nk_l8, nk_m8, nk_n8, nk_s8, nk_t8, nk_r12, nk_l12, nk_m12, nk_n12, nk_s12, nk_t12, nk_r31, nk_l31, nk_m31, nk_n31, nk_s31, nk_t31, nk_r32, nk_l32, nk_m32, nk_n32, nk_s32, nk_t32, nk_r59, nk_l59, nk_m59, nk_n59, nk_s59, nk_t59, nk_r60, nk_l60, nk_m60, nk_n60, nk_s60, nk_t60, nk_r96, nk_l96, nk_m96, nk_n96, nk_s96, nk_t96, nk_r97, nk_l97, nk_m97, nk_n97, nk_s97, nk_t97, nk_r120, nk_l120, nk_m120, nk_n120, nk_s120, nk_t120, nk_r240, nk_l240, nk_m240, nk_n240, nk_s240, nk_t240, nk_r255, nk_l255, nk_m255, nk_n255, nk_s255, nk_t255, nk_r256, nk_l256, nk_m256, nk_n256, nk_s256, nk_t256, Nat.add_zero, Nat.zero_add, Nat.mul_one, Nat.one_mul, Nat.mul_zero, Nat.zero_mul, Nat.sub_zero, Nat.reduceSub, Nat.reduceMul, Nat.add_sub_cancel, Bool.false_eq_true, Int.add_zero, Int.zero_add, Int.sub_zero, h0, hp0, h1, hp1, h3, hp3, e1, e2, e3, e4]
end
