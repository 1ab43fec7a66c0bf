/-! SPECS: the reference: first, as the class has it -/
def rfc (t : zE) (w : Nat) : Prop := nz4 w (wd 6 w).length = true ∧ mb t (wd 6 w) = true
theorem rfp_sp (t : zE) : ∀ j w, (∃ v, w ≤ v ∧ v < w + j ∧ rfc t v ∧ (∀ u, w ≤ u → u < v → ¬ rfc t u) ∧ rfp t w j = wpk (wd 6 v)) ∨ ((∀ u, w ≤ u → u < w + j → ¬ rfc t u) ∧ rfp t w j = 18446744073709551615)
  | 0, w => Or.inr ⟨fun u h1 h2 => by omega, rfl⟩
  | j + 1, w => by
    have hst : rfp t w (j + 1) = if nz4 w (wd 6 w).length = true ∧ mb t (wd 6 w) = true then wpk (wd 6 w) else rfp t (w + 1) j := rfl
    by_cases hc : nz4 w (wd 6 w).length = true ∧ mb t (wd 6 w) = true
    · rw [if_pos hc] at hst
      exact Or.inl ⟨w, Nat.le_refl _, by omega, hc, fun u h1 h2 => by omega, hst⟩
    · rw [if_neg hc] at hst
      rcases rfp_sp t j (w + 1) with ⟨v, h1, h2, h3, h4, h5⟩ | ⟨h1, h2⟩
      · refine Or.inl ⟨v, by omega, by omega, h3, fun u a b => ?_, hst.trans h5⟩
        by_cases e : u = w
        · rw [e]; exact hc
        · exact h4 u (by omega) b
      · refine Or.inr ⟨fun u a b => ?_, hst.trans h2⟩
        by_cases e : u = w
        · rw [e]; exact hc
        · exact h1 u (by omega) (by omega)
theorem fpl_sp (t : zE) : ∀ j p, (∃ v, p ≤ v ∧ v < p + j ∧ mb t (wa 6 v) = true ∧ (∀ u, p ≤ u → u < v → ¬ mb t (wa 6 u) = true) ∧ fpl t p j = wpk (wa 6 v)) ∨ ((∀ u, p ≤ u → u < p + j → ¬ mb t (wa 6 u) = true) ∧ fpl t p j = 18446744073709551615)
  | 0, p => Or.inr ⟨fun u h1 h2 => by omega, rfl⟩
  | j + 1, p => by
    have hst : fpl t p (j + 1) = if mb t (wa 6 p) = true then wpk (wa 6 p) else fpl t (p + 1) j := rfl
    by_cases hc : mb t (wa 6 p) = true
    · rw [if_pos hc] at hst
      exact Or.inl ⟨p, Nat.le_refl _, by omega, hc, fun u h1 h2 => by omega, hst⟩
    · rw [if_neg hc] at hst
      rcases fpl_sp t j (p + 1) with ⟨v, h1, h2, h3, h4, h5⟩ | ⟨h1, h2⟩
      · refine Or.inl ⟨v, by omega, by omega, h3, fun u a b => ?_, hst.trans h5⟩
        by_cases e : u = p
        · rw [e]; exact hc
        · exact h4 u (by omega) b
      · refine Or.inr ⟨fun u a b => ?_, hst.trans h2⟩
        by_cases e : u = p
        · rw [e]; exact hc
        · exact h1 u (by omega) (by omega)
theorem rfc_wa {t : zE} {p : Nat} (h : mb t (wa 6 p) = true) : rfc t (w4 (wa 6 p)) := by
  have c2 := w4_6 (wa_good 6 p) (wa_lenle 6 p)
  have c3 : wd 6 (w4 (wa 6 p)) = wa 6 p := wd_of 6 (wa 6 p) (wa_good 6 p) (wa_lenle 6 p)
  have c4 : (4 : Nat) ^ 6 = 4096 := by decide
  refine ⟨(nz4_wd 6 _ (by omega)).mpr (by rw [c3]; exact wa_good 6 p), by rw [c3]; exact h⟩
theorem rf_pl (t : zE) : rfp t 0 4096 = fpl t 0 1093 := by
  rcases rfp_sp t 4096 0 with ⟨v, -, h2, h3, h4, h5⟩ | ⟨h1, h2⟩
  · have hv6 : v < 4 ^ 6 := by
      have : (4 : Nat) ^ 6 = 4096 := by decide
      omega
    have hg := (nz4_wd 6 v hv6).mp h3.1
    obtain ⟨p', hp', hw⟩ := wa_sur 6 (wd 6 v) hg (wd_lenle 6 v)
    have hp2 : p' < 1093 := by rw [← pf7]; exact hp'
    rcases fpl_sp t 1093 0 with ⟨p, -, a2, a3, a4, a5⟩ | ⟨a1, a2⟩
    · have e : p = p' := by
        have b1 : ¬ p' < p := fun z => a4 p' (Nat.zero_le _) z (by rw [hw]; exact h3.2)
        have b2 : ¬ p < p' := fun z => by
          have c1 := wa6_lt z hp2
          rw [hw, wd_w4 6 v hv6] at c1
          exact h4 (w4 (wa 6 p)) (Nat.zero_le _) c1 (rfc_wa a3)
        omega
      rw [h5, a5, e, hw]
    · exact absurd (by rw [hw]; exact h3.2) (a1 p' (Nat.zero_le _) (by omega))
  · rcases fpl_sp t 1093 0 with ⟨p, -, a2, a3, a4, a5⟩ | ⟨a1, a2⟩
    · have c2 := w4_6 (wa_good 6 p) (wa_lenle 6 p)
      exact absurd (rfc_wa a3) (h1 (w4 (wa 6 p)) (Nat.zero_le _) (by omega))
    · rw [h2, a2]
section
variable {d n np kp ps : Nat} {f f' : zF} {m : zM} {X P : Nat → List Nat} {G : Nat → Bool} {C : Nat → Nat} {fd thr : Int} {ft : zE} {T : Nat → zE}
theorem r_first (hd : 5 ≤ d) (h : RI f thr n X G P np C kp fd ft ps T) : ∃ f' : zF, (∀ i, i < 266 ∨ 283 < i → f' i = f i) ∧ if fd = 1 then zrun zTb d 161 [.ref 266] f m = some (.inl (some (.long (J ((fpl ft 0 1093 : Nat) : Int)))), f', m) ∧ RI f' 0 n X G P np C kp fd ft ps T else zrun zTb d 161 [.ref 266] f m = some (.inl (some (.long (J 0))), f', m) ∧ RI f' 1 n X G P np C kp fd ft ps T := by
  obtain ⟨d, rfl⟩ : ∃ e, d = e + 1 := ⟨d - 1, by omega⟩
  obtain ⟨⟨stt, te, h266⟩, -⟩ := id h
  have h266' := h266
  unfold mo at h266'
  rcases RI_fd h with rfl | rfl
  · refine ⟨zup f 266 (mo 1 n np kp 0 ps stt te), fun i hi => zup_ne (by omega), ?_⟩
    rw [if_neg (by omega)]
    refine ⟨?_, RI_set h h266⟩
    unfold mo
    rw [zs_X10_first]
    simp (disch := omega) only [ze_X10_first_0, ze_X10_first_5, ze_X10_first_8, ze_X10_first_12, ze_X10_first_16, ze_X10_first_20, ze_X10_first_23, ze_X10_first_25, ze_X10_first_34, ze_X10_first_38, ze_X10_first_41, ze_X10_first_48, ze_X10_first_51, ze_X10_first_55, ze_X10_first_56, ze_X10_first_62, zcal_x, zfh_nil, zfh_cons, zset_0, zset_1, zset_s, zcal_v, zcal_n, zcalI_n, zco_O, zcf_O, zcs_O, zisc_O, zr8_A, zr8_S, zri_A, zri_B, zri_C, zrl_L, zrd_D, zrs_R, zgi_A, zgi_S, zgi_B, zgi_C, zgl_L, zgd_D, zisa_A, zisa_S, zisa_L, zisa_B, zisa_R, zln_A, zln_S, zln_L, zln_B, zln_R, zwi_A, zwl_L, zwd_D, zclr_i, zclr_r, zclr_l, zclr_d, zclr_n, zok_i, zok_l, zok_b0, zok_b1, I_add, I_sub, I_mul, I_neg, J_add, J_sub, J_mul, J_toI, I_ofNat, I_cl, I_J, I_ne2, zup_same, zup_up, zup_ne, zc1_eqB, zc1_neB, zret_b, zret_b0, zret_b1, List.getD_cons_zero, List.getD_cons_succ, List.length_cons, List.length_nil, List.set_cons_zero, List.set_cons_succ, Option.toList, List.cons_append, List.nil_append, Int.cast_ofNat_Int, decide_eq_true_eq, Bool.and_eq_true, and_self, true_and, and_true, if_true, if_false, not_true_eq_false, not_false_eq_true, ↓reduceIte, Nat.reduceAdd, Nat.reduceLT, Nat.reduceLeDiff, Nat.reduceEqDiff, Int.reduceAdd, Int.reduceSub, Int.reduceMul, Int.reduceNeg, Int.reduceLT, Int.reduceLE, Int.reduceEq, Int.reduceToNat, Int.toNat_natCast, Nat.lt_add_one, Nat.zero_lt_succ, q1_eq_t, q1_eq_f, q2_eq_t, q2_eq_f, ql_eq_t, ql_eq_f, q1_ne_t, q1_ne_f, q2_ne_t, q2_ne_f, ql_ne_t, ql_ne_f, q1_lt_t, q1_lt_f, q2_lt_t, q2_lt_f, ql_lt_t, ql_lt_f, q1_ge_t, q1_ge_f, q2_ge_t, q2_ge_f, ql_ge_t, ql_ge_f, q1_gt_t, q1_gt_f, q2_gt_t, q2_gt_f, ql_gt_t, ql_gt_f, q1_le_t, q1_le_f, q2_le_t, q2_le_f, ql_le_t, ql_le_f, zib_t, qb_t, qb_f, nk_add, nk_mul, nk_sub, nk_d1, nk_d0, nk_toNat, nk_r1, nk_l1, nk_m1, nk_n1, nk_s1, nk_t1, nk_r2, nk_l2, nk_m2, nk_n2, nk_s2, nk_t2, nk_r3, nk_l3, nk_m3, nk_n3, nk_s3, nk_t3, nk_r4, nk_l4, nk_m4, nk_n4, nk_s4, nk_t4, nk_r6, nk_l6, nk_m6, nk_n6, nk_s6, nk_t6, nk_r7, nk_l7, nk_m7, nk_n7, nk_s7, nk_t7, nk_r8, nk_l8, nk_m8, nk_n8, nk_s8, nk_t8, nk_r12, nk_l12, nk_m12, nk_n12, nk_s12, nk_t12, nk_r31, nk_l31, nk_m31, nk_n31, nk_s31, nk_t31, nk_r32, nk_l32, nk_m32, nk_n32, nk_s32, nk_t32, nk_r59, nk_l59, nk_m59, nk_n59, nk_s59, nk_t59, nk_r60, nk_l60, nk_m60, nk_n60, nk_s60, nk_t60, nk_r96, nk_l96, nk_m96, nk_n96, nk_s96, nk_t96, nk_r97, nk_l97, nk_m97, nk_n97, nk_s97, nk_t97, nk_r120, nk_l120, nk_m120, nk_n120, nk_s120, nk_t120, nk_r240, nk_l240, nk_m240, nk_n240, nk_s240, nk_t240, nk_r255, nk_l255, nk_m255, nk_n255, nk_s255, nk_t255, nk_r256, nk_l256, nk_m256, nk_n256, nk_s256, nk_t256, Nat.add_zero, Nat.zero_add, Nat.mul_one, Nat.one_mul, Nat.mul_zero, Nat.zero_mul, Nat.sub_zero, Nat.reduceSub, Nat.reduceMul, Nat.add_sub_cancel, Bool.false_eq_true, Int.add_zero, Int.zero_add, Int.sub_zero, zfty_9_0, h266']
  · obtain ⟨f1, a1, a2, a3⟩ := rf_l (m := m) (d := d) (by omega) rfl 4096 0 _ (by omega) (RI_set (thr' := 0) h h266)
    refine ⟨f1, fun k hk => by rw [a2 k hk, zup_ne (by omega)], ?_⟩
    rw [if_pos rfl]
    refine ⟨?_, a3⟩
    rw [rf_pl] at a1
    simp only [Int.cast_ofNat_Int] at a1
    unfold mo at a1
    rw [zs_X10_first]
    simp (disch := omega) only [ze_X10_first_0, ze_X10_first_5, ze_X10_first_8, ze_X10_first_12, ze_X10_first_16, ze_X10_first_20, ze_X10_first_23, ze_X10_first_25, ze_X10_first_34, ze_X10_first_38, ze_X10_first_41, ze_X10_first_48, ze_X10_first_51, ze_X10_first_55, ze_X10_first_56, ze_X10_first_62, zcal_x, zfh_nil, zfh_cons, zset_0, zset_1, zset_s, zcal_v, zcal_n, zcalI_n, zco_O, zcf_O, zcs_O, zisc_O, zr8_A, zr8_S, zri_A, zri_B, zri_C, zrl_L, zrd_D, zrs_R, zgi_A, zgi_S, zgi_B, zgi_C, zgl_L, zgd_D, zisa_A, zisa_S, zisa_L, zisa_B, zisa_R, zln_A, zln_S, zln_L, zln_B, zln_R, zwi_A, zwl_L, zwd_D, zclr_i, zclr_r, zclr_l, zclr_d, zclr_n, zok_i, zok_l, zok_b0, zok_b1, I_add, I_sub, I_mul, I_neg, J_add, J_sub, J_mul, J_toI, I_ofNat, I_cl, I_J, I_ne2, zup_same, zup_up, zup_ne, zc1_eqB, zc1_neB, zret_b, zret_b0, zret_b1, List.getD_cons_zero, List.getD_cons_succ, List.length_cons, List.length_nil, List.set_cons_zero, List.set_cons_succ, Option.toList, List.cons_append, List.nil_append, Int.cast_ofNat_Int, decide_eq_true_eq, Bool.and_eq_true, and_self, true_and, and_true, if_true, if_false, not_true_eq_false, not_false_eq_true, ↓reduceIte, Nat.reduceAdd, Nat.reduceLT, Nat.reduceLeDiff, Nat.reduceEqDiff, Int.reduceAdd, Int.reduceSub, Int.reduceMul, Int.reduceNeg, Int.reduceLT, Int.reduceLE, Int.reduceEq, Int.reduceToNat, Int.toNat_natCast, Nat.lt_add_one, Nat.zero_lt_succ, q1_eq_t, q1_eq_f, q2_eq_t, q2_eq_f, ql_eq_t, ql_eq_f, q1_ne_t, q1_ne_f, q2_ne_t, q2_ne_f, ql_ne_t, ql_ne_f, q1_lt_t, q1_lt_f, q2_lt_t, q2_lt_f, ql_lt_t, ql_lt_f, q1_ge_t, q1_ge_f, q2_ge_t, q2_ge_f, ql_ge_t, ql_ge_f, q1_gt_t, q1_gt_f, q2_gt_t, q2_gt_f, ql_gt_t, ql_gt_f, q1_le_t, q1_le_f, q2_le_t, q2_le_f, ql_le_t, ql_le_f, zib_t, qb_t, qb_f, nk_add, nk_mul, nk_sub, nk_d1, nk_d0, nk_toNat, nk_r1, nk_l1, nk_m1, nk_n1, nk_s1, nk_t1, nk_r2, nk_l2, nk_m2, nk_n2, nk_s2, nk_t2, nk_r3, nk_l3, nk_m3, nk_n3, nk_s3, nk_t3, nk_r4, nk_l4, nk_m4, nk_n4, nk_s4, nk_t4, nk_r6, nk_l6, nk_m6, nk_n6, nk_s6, nk_t6, nk_r7, nk_l7, nk_m7, nk_n7, nk_s7, nk_t7, nk_r8, nk_l8, nk_m8, nk_n8, nk_s8, nk_t8, nk_r12, nk_l12, nk_m12, nk_n12, nk_s12, nk_t12, nk_r31, nk_l31, nk_m31, nk_n31, nk_s31, nk_t31, nk_r32, nk_l32, nk_m32, nk_n32, nk_s32, nk_t32, nk_r59, nk_l59, nk_m59, nk_n59, nk_s59, nk_t59, nk_r60, nk_l60, nk_m60, nk_n60, nk_s60, nk_t60, nk_r96, nk_l96, nk_m96, nk_n96, nk_s96, nk_t96, nk_r97, nk_l97, nk_m97, nk_n97, nk_s97, nk_t97, nk_r120, nk_l120, nk_m120, nk_n120, nk_s120, nk_t120, nk_r240, nk_l240, nk_m240, nk_n240, nk_s240, nk_t240, nk_r255, nk_l255, nk_m255, nk_n255, nk_s255, nk_t255, nk_r256, nk_l256, nk_m256, nk_n256, nk_s256, nk_t256, Nat.add_zero, Nat.zero_add, Nat.mul_one, Nat.one_mul, Nat.mul_zero, Nat.zero_mul, Nat.sub_zero, Nat.reduceSub, Nat.reduceMul, Nat.add_sub_cancel, Bool.false_eq_true, Int.add_zero, Int.zero_add, Int.sub_zero, zfty_9_0, h266', a1]
end
