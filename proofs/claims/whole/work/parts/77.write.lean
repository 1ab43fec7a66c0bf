/-! SPECS: the reference writes the nodes of a kept pattern; so does the class -/
theorem RO_fre {f g : zF} {P : Nat → List Nat} {np : Nat} {s : zW} (h : ∀ i, (275 ≤ i ∧ i ≤ 279) → g i = f i) (hr : RO f P np s) : RO g P np s := by
  obtain ⟨KS, FS, SS, PS, TB, h1, h2, h3, h4, h5, h6⟩ := hr
  exact ⟨KS, FS, SS, PS, TB, (h _ (by omega)).trans h1, (h _ (by omega)).trans h2, (h _ (by omega)).trans h3, (h _ (by omega)).trans h4, (h _ (by omega)).trans h5, h6⟩
theorem nk_l720 (a : Nat) : 720 + (a : Int) = ((720 + a : Nat) : Int) := rfl
theorem zst_castI (N : Nat → Nat) (j v : Nat) : zst (fun k => (N k : Int)) j (v : Int) = fun k => ((zst N j v k : Nat) : Int) := zst_cast N j v
section
variable {np : Nat} {m : zM} {thr ex pc kp fd pl stt te : Int} {P : Nat → List Nat} {s : zW}
theorem s_write (hEW : EW s) : ∀ (k d : Nat) (f : zF) (N : Nat → Nat) (SZ : Nat → Int) (o : Nat), k + 1 ≤ d → k < s.1 → f 266 = some (mo thr ex pc kp fd pl stt te) → RO f P np s → f 280 = some (kA 780 (fun i => (N i : Int))) → f 281 = some (kA 13 SZ) → SZ 12 = (o : Int) → o + sz (s.2.2.1 k) ≤ 60 → (∀ i, N i < 2147483648) → ∃ (f' : zF) (N' : Nat → Nat) (SZ' : Nat → Int), zrun zTb d 140 [.ref 266, .int (I k)] f m = some (.inl none, f', m) ∧ (∀ i, i ≠ 280 → i ≠ 281 → f' i = f i) ∧ f' 280 = some (kA 780 (fun i => (N' i : Int))) ∧ f' 281 = some (kA 13 SZ') ∧ SZ' 12 = ((o + sz (s.2.2.1 k) : Nat) : Int) ∧ (∀ r, r ≠ 12 → SZ' r = SZ r) ∧ repc N' (720 + o) (nd (s.2.2.1 k)) ∧ (∀ i, i < 720 + o → N' i = N i) ∧ ∀ i, N' i < 2147483648 := by
  intro k
  induction k using Nat.strongRecOn with
  | ind k ih =>
    intro d f N SZ o hd hk h266 hO h280 h281 hSZ ho hb
    obtain ⟨d, rfl⟩ : ∃ e, d = e + 1 := ⟨d - 1, by omega⟩
    obtain ⟨w1, w2, w3, w4, w5, w6, w7, w8, w9, w10⟩ := hEW.2.1 k hk
    have hn120 := hEW.1
    obtain ⟨KS, FS, SS, PS, TB, y275, y276, y277, y278, y279, hOk⟩ := id hO
    obtain ⟨q1, q2, q3, q4, q5⟩ := hOk k hk
    have hx := h266
    unfold mo at hx
    generalize hkd : (s.2.1 k).1 = kd at *
    generalize hfa : (s.2.1 k).2.1 = a at *
    generalize hfb : (s.2.1 k).2.2.1 = b at *
    obtain ⟨g1, hg1⟩ : ∃ g, g = zup (zup f 280 (kA 780 (fun i => ((zst N (720 + o) (if kd = 2 then 8 * (a - 96) + 2 else kd) i : Nat) : Int)))) 281 (kA 13 (zst SZ 12 ((o + 1 : Nat) : Int))) := ⟨_, rfl⟩
    have hgf : ∀ i, i ≠ 280 → i ≠ 281 → g1 i = f i := by
      intro i h1 h2
      rw [hg1]
      simp (disch := omega) only [zup_ne]
    have hO1 : RO g1 P np s := RO_fre (fun i hi => hgf i (by omega) (by omega)) hO
    have z266 : g1 266 = some (mo thr ex pc kp fd pl stt te) := (hgf 266 (by omega) (by omega)).trans h266
    have z280 : g1 280 = some (kA 780 (fun i => ((zst N (720 + o) (if kd = 2 then 8 * (a - 96) + 2 else kd) i : Nat) : Int))) := by rw [hg1]; simp (disch := omega) only [zup_same, zup_ne]
    have z281 : g1 281 = some (kA 13 (zst SZ 12 ((o + 1 : Nat) : Int))) := by rw [hg1]; simp (disch := omega) only [zup_same, zup_ne]
    have hcode : (if kd = 2 then 8 * (a - 96) + 2 else kd) < 2147483648 := by
      split
      · omega
      · omega
    have hb1 : ∀ i, zst N (720 + o) (if kd = 2 then 8 * (a - 96) + 2 else kd) i < 2147483648 := by
      intro i
      by_cases hi : i = 720 + o
      · subst hi; rw [zst_same]; exact hcode
      · rw [zst_ne hi]; exact hb i
    by_cases h3 : kd < 3
    · have hnd : nd (s.2.2.1 k) = [(kd, (if kd = 2 then a else 0), 1)] ∧ sz (s.2.2.1 k) = 1 := by
        rw [w2]
        rcases (show kd = 0 ∨ kd = 1 ∨ kd = 2 by omega) with h | h | h <;> rw [h] <;> exact ⟨rfl, rfl⟩
      rw [hnd.2] at ho ⊢
      refine ⟨g1, _, _, ?_, hgf, z280, z281, zst_same, fun r hr => zst_ne hr, ?_, fun i hi => zst_ne (by omega), hb1⟩
      · rw [zs_X10_write]
        by_cases hk2 : kd = 2
        · have hra : ra kd a = a - 96 := by rw [hk2]; rfl
          rw [hra] at q2
          rw [hk2] at q1
          rw [hg1, if_pos hk2]
          simp only [Int.cast_ofNat_Int] at q1
          simp (disch := omega) only [ze_X10_write_0, ze_X10_write_4, ze_X10_write_11, ze_X10_write_14, ze_X10_write_19, ze_X10_write_21, ze_X10_write_25, ze_X10_write_31, ze_X10_write_33, ze_X10_write_39, ze_X10_write_43, ze_X10_write_45, ze_X10_write_46, ze_X10_write_50, ze_X10_write_54, ze_X10_write_57, ze_X10_write_61, ze_X10_write_63, ze_X10_write_67, ze_X10_write_72, ze_X10_write_74, ze_X10_write_77, ze_X10_write_81, ze_X10_write_83, ze_X10_write_87, ze_X10_write_92, ze_X10_write_94, ze_X10_write_97, zcal_x, zfh_nil, zfh_cons, zset_0, zset_1, zset_s, zcal_v, zcal_n, zcalI_n, zco_O, zcf_O, zcs_O, zisc_O, zr8_A, zr8_S, zri_A, zri_B, zri_C, zrl_L, zrd_D, zrs_R, zgi_A, zgi_S, zgi_B, zgi_C, zgl_L, zgd_D, zisa_A, zisa_S, zisa_L, zisa_B, zisa_R, zln_A, zln_S, zln_L, zln_B, zln_R, zwi_A, zwl_L, zwd_D, zclr_i, zclr_r, zclr_l, zclr_d, zclr_n, zok_i, zok_l, zok_b0, zok_b1, I_add, I_sub, I_mul, I_neg, J_add, J_sub, J_mul, J_toI, I_ofNat, I_cl, I_J, I_ne2, zup_same, zup_up, zup_ne, zc1_eqB, zc1_neB, zret_b, zret_b0, zret_b1, List.getD_cons_zero, List.getD_cons_succ, List.length_cons, List.length_nil, List.set_cons_zero, List.set_cons_succ, Option.toList, List.cons_append, List.nil_append, Int.cast_ofNat_Int, decide_eq_true_eq, Bool.and_eq_true, and_self, true_and, and_true, if_true, if_false, not_true_eq_false, not_false_eq_true, ↓reduceIte, Nat.reduceAdd, Nat.reduceLT, Nat.reduceLeDiff, Nat.reduceEqDiff, Int.reduceAdd, Int.reduceSub, Int.reduceMul, Int.reduceNeg, Int.reduceLT, Int.reduceLE, Int.reduceEq, Int.reduceToNat, Int.toNat_natCast, Nat.lt_add_one, Nat.zero_lt_succ, q1_eq_t, q1_eq_f, q2_eq_t, q2_eq_f, ql_eq_t, ql_eq_f, q1_ne_t, q1_ne_f, q2_ne_t, q2_ne_f, ql_ne_t, ql_ne_f, q1_lt_t, q1_lt_f, q2_lt_t, q2_lt_f, ql_lt_t, ql_lt_f, q1_ge_t, q1_ge_f, q2_ge_t, q2_ge_f, ql_ge_t, ql_ge_f, q1_gt_t, q1_gt_f, q2_gt_t, q2_gt_f, ql_gt_t, ql_gt_f, q1_le_t, q1_le_f, q2_le_t, q2_le_f, ql_le_t, ql_le_f, zib_t, qb_t, qb_f, nk_add, nk_mul, nk_sub, nk_d1, nk_d0, nk_toNat, nk_r1, nk_l1, nk_m1, nk_n1, nk_s1, nk_t1, nk_r2, nk_l2, nk_m2, nk_n2, nk_s2, nk_t2, nk_r3, nk_l3, nk_m3, nk_n3, nk_s3, nk_t3, nk_r4, nk_l4, nk_m4, nk_n4, nk_s4, nk_t4, nk_r6, nk_l6, nk_m6, nk_n6, nk_s6, nk_t6, nk_r7, nk_l7, nk_m7, nk_n7, nk_s7, nk_t7, nk_r8, nk_l8, nk_m8, nk_n8, nk_s8, nk_t8, nk_r12, nk_l12, nk_m12, nk_n12, nk_s12, nk_t12, nk_r31, nk_l31, nk_m31, nk_n31, nk_s31, nk_t31, nk_r32, nk_l32, nk_m32, nk_n32, nk_s32, nk_t32, nk_r59, nk_l59, nk_m59, nk_n59, nk_s59, nk_t59, nk_r60, nk_l60, nk_m60, nk_n60, nk_s60, nk_t60, nk_r96, nk_l96, nk_m96, nk_n96, nk_s96, nk_t96, nk_r97, nk_l97, nk_m97, nk_n97, nk_s97, nk_t97, nk_r120, nk_l120, nk_m120, nk_n120, nk_s120, nk_t120, nk_r240, nk_l240, nk_m240, nk_n240, nk_s240, nk_t240, nk_r255, nk_l255, nk_m255, nk_n255, nk_s255, nk_t255, nk_r256, nk_l256, nk_m256, nk_n256, nk_s256, nk_t256, Nat.add_zero, Nat.zero_add, Nat.mul_one, Nat.one_mul, Nat.mul_zero, Nat.zero_mul, Nat.sub_zero, Nat.reduceSub, Nat.reduceMul, Nat.add_sub_cancel, Bool.false_eq_true, Int.add_zero, Int.zero_add, Int.sub_zero, hx, h280, h281, hSZ, y275, y276, q1, q2, zst_castI, nk_l720]
        · rw [hg1, if_neg hk2]
          simp (disch := omega) only [ze_X10_write_0, ze_X10_write_4, ze_X10_write_11, ze_X10_write_14, ze_X10_write_19, ze_X10_write_21, ze_X10_write_25, ze_X10_write_31, ze_X10_write_33, ze_X10_write_39, ze_X10_write_43, ze_X10_write_45, ze_X10_write_46, ze_X10_write_50, ze_X10_write_54, ze_X10_write_57, ze_X10_write_61, ze_X10_write_63, ze_X10_write_67, ze_X10_write_72, ze_X10_write_74, ze_X10_write_77, ze_X10_write_81, ze_X10_write_83, ze_X10_write_87, ze_X10_write_92, ze_X10_write_94, ze_X10_write_97, zcal_x, zfh_nil, zfh_cons, zset_0, zset_1, zset_s, zcal_v, zcal_n, zcalI_n, zco_O, zcf_O, zcs_O, zisc_O, zr8_A, zr8_S, zri_A, zri_B, zri_C, zrl_L, zrd_D, zrs_R, zgi_A, zgi_S, zgi_B, zgi_C, zgl_L, zgd_D, zisa_A, zisa_S, zisa_L, zisa_B, zisa_R, zln_A, zln_S, zln_L, zln_B, zln_R, zwi_A, zwl_L, zwd_D, zclr_i, zclr_r, zclr_l, zclr_d, zclr_n, zok_i, zok_l, zok_b0, zok_b1, I_add, I_sub, I_mul, I_neg, J_add, J_sub, J_mul, J_toI, I_ofNat, I_cl, I_J, I_ne2, zup_same, zup_up, zup_ne, zc1_eqB, zc1_neB, zret_b, zret_b0, zret_b1, List.getD_cons_zero, List.getD_cons_succ, List.length_cons, List.length_nil, List.set_cons_zero, List.set_cons_succ, Option.toList, List.cons_append, List.nil_append, Int.cast_ofNat_Int, decide_eq_true_eq, Bool.and_eq_true, and_self, true_and, and_true, if_true, if_false, not_true_eq_false, not_false_eq_true, ↓reduceIte, Nat.reduceAdd, Nat.reduceLT, Nat.reduceLeDiff, Nat.reduceEqDiff, Int.reduceAdd, Int.reduceSub, Int.reduceMul, Int.reduceNeg, Int.reduceLT, Int.reduceLE, Int.reduceEq, Int.reduceToNat, Int.toNat_natCast, Nat.lt_add_one, Nat.zero_lt_succ, q1_eq_t, q1_eq_f, q2_eq_t, q2_eq_f, ql_eq_t, ql_eq_f, q1_ne_t, q1_ne_f, q2_ne_t, q2_ne_f, ql_ne_t, ql_ne_f, q1_lt_t, q1_lt_f, q2_lt_t, q2_lt_f, ql_lt_t, ql_lt_f, q1_ge_t, q1_ge_f, q2_ge_t, q2_ge_f, ql_ge_t, ql_ge_f, q1_gt_t, q1_gt_f, q2_gt_t, q2_gt_f, ql_gt_t, ql_gt_f, q1_le_t, q1_le_f, q2_le_t, q2_le_f, ql_le_t, ql_le_f, zib_t, qb_t, qb_f, nk_add, nk_mul, nk_sub, nk_d1, nk_d0, nk_toNat, nk_r1, nk_l1, nk_m1, nk_n1, nk_s1, nk_t1, nk_r2, nk_l2, nk_m2, nk_n2, nk_s2, nk_t2, nk_r3, nk_l3, nk_m3, nk_n3, nk_s3, nk_t3, nk_r4, nk_l4, nk_m4, nk_n4, nk_s4, nk_t4, nk_r6, nk_l6, nk_m6, nk_n6, nk_s6, nk_t6, nk_r7, nk_l7, nk_m7, nk_n7, nk_s7, nk_t7, nk_r8, nk_l8, nk_m8, nk_n8, nk_s8, nk_t8, nk_r12, nk_l12, nk_m12, nk_n12, nk_s12, nk_t12, nk_r31, nk_l31, nk_m31, nk_n31, nk_s31, nk_t31, nk_r32, nk_l32, nk_m32, nk_n32, nk_s32, nk_t32, nk_r59, nk_l59, nk_m59, nk_n59, nk_s59, nk_t59, nk_r60, nk_l60, nk_m60, nk_n60, nk_s60, nk_t60, nk_r96, nk_l96, nk_m96, nk_n96, nk_s96, nk_t96, nk_r97, nk_l97, nk_m97, nk_n97, nk_s97, nk_t97, nk_r120, nk_l120, nk_m120, nk_n120, nk_s120, nk_t120, nk_r240, nk_l240, nk_m240, nk_n240, nk_s240, nk_t240, nk_r255, nk_l255, nk_m255, nk_n255, nk_s255, nk_t255, nk_r256, nk_l256, nk_m256, nk_n256, nk_s256, nk_t256, Nat.add_zero, Nat.zero_add, Nat.mul_one, Nat.one_mul, Nat.mul_zero, Nat.zero_mul, Nat.sub_zero, Nat.reduceSub, Nat.reduceMul, Nat.add_sub_cancel, Bool.false_eq_true, Int.add_zero, Int.zero_add, Int.sub_zero, hx, h280, h281, hSZ, y275, y276, q1, q2, zst_castI, nk_l720]
      · rw [hnd.1]
        refine repc_cons.mpr ⟨?_, fun i hi => by cases hi⟩
        rw [zst_same]
        unfold nc
        dsimp only
        by_cases hk2 : kd = 2
        · rw [if_pos hk2, if_pos hk2, if_pos hk2]
        · rw [if_neg hk2, if_neg hk2]
    · have hra : ra kd a = a := by unfold ra; rw [if_neg (by omega)]
      rw [hra] at q2
      have hak := w4 (by omega)
      by_cases h5 : kd < 5
      · have hnd : nd (s.2.2.1 k) = (kd, 0, sz (s.2.2.1 a) + 1) :: nd (s.2.2.1 a) ∧ sz (s.2.2.1 k) = sz (s.2.2.1 a) + 1 := by
          rw [w2]
          rcases (show kd = 3 ∨ kd = 4 by omega) with h | h <;> rw [h] <;> exact ⟨rfl, rfl⟩
        rw [hnd.2] at ho ⊢
        obtain ⟨f2, N2, SZ2, e1, j1, j2, j3, j4, j5, j6, j7, j8⟩ := ih a hak d g1 _ _ (o + 1) (by omega) (by omega) z266 hO1 z280 z281 zst_same (by omega) hb1
        have u266 := ((j1 266 (by omega) (by omega)).trans z266)
        have u275 := ((j1 275 (by omega) (by omega)).trans (hgf 275 (by omega) (by omega))).trans y275
        unfold mo at u266
        refine ⟨f2, N2, SZ2, ?_, fun i h1 h2 => (j1 i h1 h2).trans (hgf i h1 h2), j2, j3, ?_, fun r hr => (j5 r hr).trans (zst_ne hr), ?_, fun i hi => (j7 i (by omega)).trans (zst_ne (by omega)), j8⟩
        · rw [zs_X10_write]
          rw [hg1, if_neg (show ¬ kd = 2 by omega)] at e1
          simp (disch := omega) only [ze_X10_write_0, ze_X10_write_4, ze_X10_write_11, ze_X10_write_14, ze_X10_write_19, ze_X10_write_21, ze_X10_write_25, ze_X10_write_31, ze_X10_write_33, ze_X10_write_39, ze_X10_write_43, ze_X10_write_45, ze_X10_write_46, ze_X10_write_50, ze_X10_write_54, ze_X10_write_57, ze_X10_write_61, ze_X10_write_63, ze_X10_write_67, ze_X10_write_72, ze_X10_write_74, ze_X10_write_77, ze_X10_write_81, ze_X10_write_83, ze_X10_write_87, ze_X10_write_92, ze_X10_write_94, ze_X10_write_97, zcal_x, zfh_nil, zfh_cons, zset_0, zset_1, zset_s, zcal_v, zcal_n, zcalI_n, zco_O, zcf_O, zcs_O, zisc_O, zr8_A, zr8_S, zri_A, zri_B, zri_C, zrl_L, zrd_D, zrs_R, zgi_A, zgi_S, zgi_B, zgi_C, zgl_L, zgd_D, zisa_A, zisa_S, zisa_L, zisa_B, zisa_R, zln_A, zln_S, zln_L, zln_B, zln_R, zwi_A, zwl_L, zwd_D, zclr_i, zclr_r, zclr_l, zclr_d, zclr_n, zok_i, zok_l, zok_b0, zok_b1, I_add, I_sub, I_mul, I_neg, J_add, J_sub, J_mul, J_toI, I_ofNat, I_cl, I_J, I_ne2, zup_same, zup_up, zup_ne, zc1_eqB, zc1_neB, zret_b, zret_b0, zret_b1, List.getD_cons_zero, List.getD_cons_succ, List.length_cons, List.length_nil, List.set_cons_zero, List.set_cons_succ, Option.toList, List.cons_append, List.nil_append, Int.cast_ofNat_Int, decide_eq_true_eq, Bool.and_eq_true, and_self, true_and, and_true, if_true, if_false, not_true_eq_false, not_false_eq_true, ↓reduceIte, Nat.reduceAdd, Nat.reduceLT, Nat.reduceLeDiff, Nat.reduceEqDiff, Int.reduceAdd, Int.reduceSub, Int.reduceMul, Int.reduceNeg, Int.reduceLT, Int.reduceLE, Int.reduceEq, Int.reduceToNat, Int.toNat_natCast, Nat.lt_add_one, Nat.zero_lt_succ, q1_eq_t, q1_eq_f, q2_eq_t, q2_eq_f, ql_eq_t, ql_eq_f, q1_ne_t, q1_ne_f, q2_ne_t, q2_ne_f, ql_ne_t, ql_ne_f, q1_lt_t, q1_lt_f, q2_lt_t, q2_lt_f, ql_lt_t, ql_lt_f, q1_ge_t, q1_ge_f, q2_ge_t, q2_ge_f, ql_ge_t, ql_ge_f, q1_gt_t, q1_gt_f, q2_gt_t, q2_gt_f, ql_gt_t, ql_gt_f, q1_le_t, q1_le_f, q2_le_t, q2_le_f, ql_le_t, ql_le_f, zib_t, qb_t, qb_f, nk_add, nk_mul, nk_sub, nk_d1, nk_d0, nk_toNat, nk_r1, nk_l1, nk_m1, nk_n1, nk_s1, nk_t1, nk_r2, nk_l2, nk_m2, nk_n2, nk_s2, nk_t2, nk_r3, nk_l3, nk_m3, nk_n3, nk_s3, nk_t3, nk_r4, nk_l4, nk_m4, nk_n4, nk_s4, nk_t4, nk_r6, nk_l6, nk_m6, nk_n6, nk_s6, nk_t6, nk_r7, nk_l7, nk_m7, nk_n7, nk_s7, nk_t7, nk_r8, nk_l8, nk_m8, nk_n8, nk_s8, nk_t8, nk_r12, nk_l12, nk_m12, nk_n12, nk_s12, nk_t12, nk_r31, nk_l31, nk_m31, nk_n31, nk_s31, nk_t31, nk_r32, nk_l32, nk_m32, nk_n32, nk_s32, nk_t32, nk_r59, nk_l59, nk_m59, nk_n59, nk_s59, nk_t59, nk_r60, nk_l60, nk_m60, nk_n60, nk_s60, nk_t60, nk_r96, nk_l96, nk_m96, nk_n96, nk_s96, nk_t96, nk_r97, nk_l97, nk_m97, nk_n97, nk_s97, nk_t97, nk_r120, nk_l120, nk_m120, nk_n120, nk_s120, nk_t120, nk_r240, nk_l240, nk_m240, nk_n240, nk_s240, nk_t240, nk_r255, nk_l255, nk_m255, nk_n255, nk_s255, nk_t255, nk_r256, nk_l256, nk_m256, nk_n256, nk_s256, nk_t256, Nat.add_zero, Nat.zero_add, Nat.mul_one, Nat.one_mul, Nat.mul_zero, Nat.zero_mul, Nat.sub_zero, Nat.reduceSub, Nat.reduceMul, Nat.add_sub_cancel, Bool.false_eq_true, Int.add_zero, Int.zero_add, Int.sub_zero, hx, h280, h281, hSZ, y275, y276, q1, q2, zst_castI, nk_l720, e1, u266, u275]
        · rw [j4, show o + 1 + sz (s.2.2.1 a) = o + (sz (s.2.2.1 a) + 1) by omega]
        · rw [hnd.1]
          refine repc_cons.mpr ⟨?_, by rw [show 720 + o + 1 = 720 + (o + 1) by omega]; exact j6⟩
          rw [j7 (720 + o) (by omega), zst_same]
          unfold nc
          rw [if_neg (by omega), if_neg (by omega)]
      · have hbk := w5 (by omega)
        have hnd : nd (s.2.2.1 k) = (kd, 0, sz (s.2.2.1 a) + sz (s.2.2.1 b) + 1) :: (nd (s.2.2.1 a) ++ nd (s.2.2.1 b)) ∧ sz (s.2.2.1 k) = sz (s.2.2.1 a) + sz (s.2.2.1 b) + 1 := by
          rw [w2]
          rcases (show kd = 5 ∨ kd = 6 by omega) with h | h <;> rw [h] <;> exact ⟨rfl, rfl⟩
        rw [hnd.2] at ho ⊢
        obtain ⟨f2, N2, SZ2, e1, j1, j2, j3, j4, j5, j6, j7, j8⟩ := ih a hak d g1 _ _ (o + 1) (by omega) (by omega) z266 hO1 z280 z281 zst_same (by omega) hb1
        have hO2 : RO f2 P np s := RO_fre (fun i hi => j1 i (by omega) (by omega)) hO1
        obtain ⟨f3, N3, SZ3, e2, l1, l2, l3, l4, l5, l6, l7, l8⟩ := ih b hbk d f2 N2 SZ2 (o + 1 + sz (s.2.2.1 a)) (by omega) (by omega) ((j1 266 (by omega) (by omega)).trans z266) hO2 j2 j3 j4 (by omega) j8
        have u266 := ((j1 266 (by omega) (by omega)).trans z266)
        have u275 := ((j1 275 (by omega) (by omega)).trans (hgf 275 (by omega) (by omega))).trans y275
        have u277 := ((j1 277 (by omega) (by omega)).trans (hgf 277 (by omega) (by omega))).trans y277
        unfold mo at u266
        refine ⟨f3, N3, SZ3, ?_, fun i h1 h2 => (l1 i h1 h2).trans ((j1 i h1 h2).trans (hgf i h1 h2)), l2, l3, ?_, fun r hr => (l5 r hr).trans ((j5 r hr).trans (zst_ne hr)), ?_, fun i hi => (l7 i (by omega)).trans ((j7 i (by omega)).trans (zst_ne (by omega))), l8⟩
        · rw [zs_X10_write]
          rw [hg1, if_neg (show ¬ kd = 2 by omega)] at e1
          simp (disch := omega) only [ze_X10_write_0, ze_X10_write_4, ze_X10_write_11, ze_X10_write_14, ze_X10_write_19, ze_X10_write_21, ze_X10_write_25, ze_X10_write_31, ze_X10_write_33, ze_X10_write_39, ze_X10_write_43, ze_X10_write_45, ze_X10_write_46, ze_X10_write_50, ze_X10_write_54, ze_X10_write_57, ze_X10_write_61, ze_X10_write_63, ze_X10_write_67, ze_X10_write_72, ze_X10_write_74, ze_X10_write_77, ze_X10_write_81, ze_X10_write_83, ze_X10_write_87, ze_X10_write_92, ze_X10_write_94, ze_X10_write_97, zcal_x, zfh_nil, zfh_cons, zset_0, zset_1, zset_s, zcal_v, zcal_n, zcalI_n, zco_O, zcf_O, zcs_O, zisc_O, zr8_A, zr8_S, zri_A, zri_B, zri_C, zrl_L, zrd_D, zrs_R, zgi_A, zgi_S, zgi_B, zgi_C, zgl_L, zgd_D, zisa_A, zisa_S, zisa_L, zisa_B, zisa_R, zln_A, zln_S, zln_L, zln_B, zln_R, zwi_A, zwl_L, zwd_D, zclr_i, zclr_r, zclr_l, zclr_d, zclr_n, zok_i, zok_l, zok_b0, zok_b1, I_add, I_sub, I_mul, I_neg, J_add, J_sub, J_mul, J_toI, I_ofNat, I_cl, I_J, I_ne2, zup_same, zup_up, zup_ne, zc1_eqB, zc1_neB, zret_b, zret_b0, zret_b1, List.getD_cons_zero, List.getD_cons_succ, List.length_cons, List.length_nil, List.set_cons_zero, List.set_cons_succ, Option.toList, List.cons_append, List.nil_append, Int.cast_ofNat_Int, decide_eq_true_eq, Bool.and_eq_true, and_self, true_and, and_true, if_true, if_false, not_true_eq_false, not_false_eq_true, ↓reduceIte, Nat.reduceAdd, Nat.reduceLT, Nat.reduceLeDiff, Nat.reduceEqDiff, Int.reduceAdd, Int.reduceSub, Int.reduceMul, Int.reduceNeg, Int.reduceLT, Int.reduceLE, Int.reduceEq, Int.reduceToNat, Int.toNat_natCast, Nat.lt_add_one, Nat.zero_lt_succ, q1_eq_t, q1_eq_f, q2_eq_t, q2_eq_f, ql_eq_t, ql_eq_f, q1_ne_t, q1_ne_f, q2_ne_t, q2_ne_f, ql_ne_t, ql_ne_f, q1_lt_t, q1_lt_f, q2_lt_t, q2_lt_f, ql_lt_t, ql_lt_f, q1_ge_t, q1_ge_f, q2_ge_t, q2_ge_f, ql_ge_t, ql_ge_f, q1_gt_t, q1_gt_f, q2_gt_t, q2_gt_f, ql_gt_t, ql_gt_f, q1_le_t, q1_le_f, q2_le_t, q2_le_f, ql_le_t, ql_le_f, zib_t, qb_t, qb_f, nk_add, nk_mul, nk_sub, nk_d1, nk_d0, nk_toNat, nk_r1, nk_l1, nk_m1, nk_n1, nk_s1, nk_t1, nk_r2, nk_l2, nk_m2, nk_n2, nk_s2, nk_t2, nk_r3, nk_l3, nk_m3, nk_n3, nk_s3, nk_t3, nk_r4, nk_l4, nk_m4, nk_n4, nk_s4, nk_t4, nk_r6, nk_l6, nk_m6, nk_n6, nk_s6, nk_t6, nk_r7, nk_l7, nk_m7, nk_n7, nk_s7, nk_t7, nk_r8, nk_l8, nk_m8, nk_n8, nk_s8, nk_t8, nk_r12, nk_l12, nk_m12, nk_n12, nk_s12, nk_t12, nk_r31, nk_l31, nk_m31, nk_n31, nk_s31, nk_t31, nk_r32, nk_l32, nk_m32, nk_n32, nk_s32, nk_t32, nk_r59, nk_l59, nk_m59, nk_n59, nk_s59, nk_t59, nk_r60, nk_l60, nk_m60, nk_n60, nk_s60, nk_t60, nk_r96, nk_l96, nk_m96, nk_n96, nk_s96, nk_t96, nk_r97, nk_l97, nk_m97, nk_n97, nk_s97, nk_t97, nk_r120, nk_l120, nk_m120, nk_n120, nk_s120, nk_t120, nk_r240, nk_l240, nk_m240, nk_n240, nk_s240, nk_t240, nk_r255, nk_l255, nk_m255, nk_n255, nk_s255, nk_t255, nk_r256, nk_l256, nk_m256, nk_n256, nk_s256, nk_t256, Nat.add_zero, Nat.zero_add, Nat.mul_one, Nat.one_mul, Nat.mul_zero, Nat.zero_mul, Nat.sub_zero, Nat.reduceSub, Nat.reduceMul, Nat.add_sub_cancel, Bool.false_eq_true, Int.add_zero, Int.zero_add, Int.sub_zero, hx, h280, h281, hSZ, y275, y276, q1, q2, q3, zst_castI, nk_l720, e1, u266, u275, u277, e2]
        · rw [l4, show o + 1 + sz (s.2.2.1 a) + sz (s.2.2.1 b) = o + (sz (s.2.2.1 a) + sz (s.2.2.1 b) + 1) by omega]
        · rw [hnd.1]
          refine repc_cons.mpr ⟨?_, (repc_app _ _).mpr ⟨?_, ?_⟩⟩
          · rw [l7 (720 + o) (by omega), j7 (720 + o) (by omega), zst_same]
            unfold nc
            rw [if_neg (by omega), if_neg (by omega)]
          · intro i hi
            have h6 := j6 i hi
            rw [nd_len] at hi
            rw [show 720 + o + 1 + i = 720 + (o + 1) + i by omega, l7 _ (by omega)]
            exact h6
          · rw [nd_len, show 720 + o + 1 + sz (s.2.2.1 a) = 720 + (o + 1 + sz (s.2.2.1 a)) by omega]
            exact l6
end
/-! the class's unroll -/
section
variable {np d : Nat} {m : zM} {P : Nat → List Nat} {s : zW}
/-- what comes behind a node: the next that waits, or none -/
def unx (WT : Nat → Int) (o : Nat) : Int × Nat := if 0 < o then (WT (o - 1), o - 1) else (-1, 0)
theorem un_l (hd : 2 ≤ d) (hEW : EW s) : ∀ (k : Nat) (f : zF) (K L Z WT : Nat → Int) (c o : Nat) (a5 : Value), k < s.1 → SO f P np s.1 s.2.1 s.2.2.1 → pat f 210 c K L Z → (∀ i, 0 ≤ L i ∧ L i < 256) → f 140 = some (kA 60 WT) → c + sz (s.2.2.1 k) + o ≤ 60 → ∃ (f' : zF) (K' L' Z' WT' : Nat → Int) (b5 : Value), zex zTb d zqX6_unroll 16 [.ref 11, .ref 210, .int (I o), .int (I k), .int (I c), a5] [] f m = zex zTb d zqX6_unroll 16 [.ref 11, .ref 210, .int (I (unx WT' o).2), .int (I (unx WT' o).1), .int (I (c + sz (s.2.2.1 k) : Nat)), b5] [] f' m ∧ pat f' 210 (c + sz (s.2.2.1 k)) K' L' Z' ∧ rep K' L' Z' c (nd (s.2.2.1 k)) ∧ (∀ i, i < c → K' i = K i ∧ L' i = L i ∧ Z' i = Z i) ∧ (∀ i, 0 ≤ L' i ∧ L' i < 256) ∧ f' 140 = some (kA 60 WT') ∧ (∀ i, i < o → WT' i = WT i) ∧ ∀ i, i ≠ 140 → (i < 210 ∨ 213 < i) → f' i = f i := by
  intro k
  induction k using Nat.strongRecOn with
  | ind k ih =>
    intro f K L Z WT c o a5 hk hSO hp hL h140 h60
    obtain ⟨w1, w2, w3, w4, w5, w6, w7, w8, w9, w10⟩ := hEW.2.1 k hk
    have hn120 := hEW.1
    obtain ⟨KS, FS, SS, NS, TS, SL, WT0, TB, hsto, h18, h139, h140', hrw, hrk, hSL, hn, hE⟩ := id hSO
    obtain ⟨q1, q2, q3, q4, q5, q6⟩ := hE k hk
    have e0 := s_X6_has (d := d) (m := m) (j := (k : Int)) (by omega) hsto hn (by omega) (by omega)
    rw [if_pos (by omega)] at e0
    have hszp := sz_pos (s.2.2.1 k)
    generalize hkd : (s.2.1 k).1 = kd at *
    generalize hfa : (s.2.1 k).2.1 = a at *
    generalize hfb : (s.2.1 k).2.2.1 = b at *
    have e1 := s_X2_append (d := d) (f := f) (m := m) (k := (kd : Int)) (l := (a : Int)) (z := (sz (s.2.2.1 k) : Int)) (by omega) hp (by omega) (by omega)
    obtain ⟨s0, s1, s2, s3, s4, s5, s6⟩ := id hsto
    have hp0 := hp.1
    obtain ⟨g1, hg1⟩ : ∃ g, g = setp f 210 (c + 1) (zst K c (kd : Int)) (zst L c (if (kd : Int) = 2 then (a : Int) else 0)) (zst Z c (sz (s.2.2.1 k) : Int)) := ⟨_, rfl⟩
    rw [← hg1] at e1
    have hpg : pat g1 210 (c + 1) (zst K c (kd : Int)) (zst L c (if (kd : Int) = 2 then (a : Int) else 0)) (zst Z c (sz (s.2.2.1 k) : Int)) := by rw [hg1]; exact pat_setp
    have hgf : ∀ i, (i < 210 ∨ 213 < i) → g1 i = f i := by
      intro i hi
      rw [hg1, setp_ne (by omega)]
    have hL1 : ∀ i, 0 ≤ zst L c (if (kd : Int) = 2 then (a : Int) else 0) i ∧ zst L c (if (kd : Int) = 2 then (a : Int) else 0) i < 256 := by
      intro i
      by_cases hi : i = c
      · subst hi; rw [zst_same]; split <;> omega
      · rw [zst_ne hi]; exact hL i
    have hSO1 : SO g1 P np s.1 s.2.1 s.2.2.1 := SO_fre (a := 210) (b := 213) (fun i hi => hgf i (by omega)) (by omega) hSO
    have z0 : g1 11 = _ := (hgf 11 (by omega)).trans s0
    have z12 : g1 12 = _ := (hgf 12 (by omega)).trans s1
    have z13 : g1 13 = _ := (hgf 13 (by omega)).trans s2
    have z14 : g1 14 = _ := (hgf 14 (by omega)).trans s3
    have z140 : g1 140 = _ := (hgf 140 (by omega)).trans h140
    by_cases h3 : kd < 3
    · have hnd : nd (s.2.2.1 k) = [(kd, (if kd = 2 then a else 0), 1)] ∧ sz (s.2.2.1 k) = 1 := by
        rw [w2]
        rcases (show kd = 0 ∨ kd = 1 ∨ kd = 2 by omega) with h | h | h <;> rw [h] <;> exact ⟨rfl, rfl⟩
      have hrep : rep (zst K c (kd : Int)) (zst L c (if (kd : Int) = 2 then (a : Int) else 0)) (zst Z c (sz (s.2.2.1 k) : Int)) c (nd (s.2.2.1 k)) := by
        rw [hnd.1]
        refine rep_cons.mpr ⟨⟨zst_same, ?_, by rw [zst_same, hnd.2]⟩, fun i hi => by cases hi⟩
        rw [zst_same]
        dsimp only
        by_cases hk2 : kd = 2
        · rw [if_pos (by omega), if_pos hk2]
        · rw [if_neg (by omega), if_neg hk2]; rfl
      rw [hnd.2] at e1 h60 hpg ⊢
      rw [hnd.2] at hrep q5
      refine ⟨g1, _, _, _, WT, .int (I kd), ?_, hpg, hrep, fun i hi => ⟨zst_ne (by omega), zst_ne (by omega), zst_ne (by omega)⟩, hL1, z140, fun _ _ => rfl, fun i h1 h2 => hgf i h2⟩
      simp only [Int.cast_ofNat_Int] at e1 q5
      rw [ze_X6_unroll_16]
      unfold unx
      by_cases ho : 0 < o
      · rw [if_pos ho]
        simp (disch := omega) only [ze_X6_unroll_0, ze_X6_unroll_4, ze_X6_unroll_10, ze_X6_unroll_23, ze_X6_unroll_28, ze_X6_unroll_31, ze_X6_unroll_35, ze_X6_unroll_37, ze_X6_unroll_46, ze_X6_unroll_48, ze_X6_unroll_52, ze_X6_unroll_54, ze_X6_unroll_57, ze_X6_unroll_63, ze_X6_unroll_68, ze_X6_unroll_69, ze_X6_unroll_72, ze_X6_unroll_76, ze_X6_unroll_81, ze_X6_unroll_83, ze_X6_unroll_84, ze_X6_unroll_87, ze_X6_unroll_93, ze_X6_unroll_97, ze_X6_unroll_99, ze_X6_unroll_103, ze_X6_unroll_107, ze_X6_unroll_114, ze_X6_unroll_116, ze_X6_unroll_120, ze_X6_unroll_128, zcal_x, zfh_nil, zfh_cons, zset_0, zset_1, zset_s, zcal_v, zcal_n, zcalI_n, zco_O, zcf_O, zcs_O, zisc_O, zr8_A, zr8_S, zri_A, zri_B, zri_C, zrl_L, zrd_D, zrs_R, zgi_A, zgi_S, zgi_B, zgi_C, zgl_L, zgd_D, zisa_A, zisa_S, zisa_L, zisa_B, zisa_R, zln_A, zln_S, zln_L, zln_B, zln_R, zwi_A, zwl_L, zwd_D, zclr_i, zclr_r, zclr_l, zclr_d, zclr_n, zok_i, zok_l, zok_b0, zok_b1, I_add, I_sub, I_mul, I_neg, J_add, J_sub, J_mul, J_toI, I_ofNat, I_cl, I_J, I_ne2, zup_same, zup_up, zup_ne, zc1_eqB, zc1_neB, zret_b, zret_b0, zret_b1, List.getD_cons_zero, List.getD_cons_succ, List.length_cons, List.length_nil, List.set_cons_zero, List.set_cons_succ, Option.toList, List.cons_append, List.nil_append, Int.cast_ofNat_Int, decide_eq_true_eq, Bool.and_eq_true, and_self, true_and, and_true, if_true, if_false, not_true_eq_false, not_false_eq_true, ↓reduceIte, Nat.reduceAdd, Nat.reduceLT, Nat.reduceLeDiff, Nat.reduceEqDiff, Int.reduceAdd, Int.reduceSub, Int.reduceMul, Int.reduceNeg, Int.reduceLT, Int.reduceLE, Int.reduceEq, Int.reduceToNat, Int.toNat_natCast, Nat.lt_add_one, Nat.zero_lt_succ, q1_eq_t, q1_eq_f, q2_eq_t, q2_eq_f, ql_eq_t, ql_eq_f, q1_ne_t, q1_ne_f, q2_ne_t, q2_ne_f, ql_ne_t, ql_ne_f, q1_lt_t, q1_lt_f, q2_lt_t, q2_lt_f, ql_lt_t, ql_lt_f, q1_ge_t, q1_ge_f, q2_ge_t, q2_ge_f, ql_ge_t, ql_ge_f, q1_gt_t, q1_gt_f, q2_gt_t, q2_gt_f, ql_gt_t, ql_gt_f, q1_le_t, q1_le_f, q2_le_t, q2_le_f, ql_le_t, ql_le_f, zib_t, qb_t, qb_f, nk_add, nk_mul, nk_sub, nk_d1, nk_d0, nk_toNat, nk_r1, nk_l1, nk_m1, nk_n1, nk_s1, nk_t1, nk_r2, nk_l2, nk_m2, nk_n2, nk_s2, nk_t2, nk_r3, nk_l3, nk_m3, nk_n3, nk_s3, nk_t3, nk_r4, nk_l4, nk_m4, nk_n4, nk_s4, nk_t4, nk_r6, nk_l6, nk_m6, nk_n6, nk_s6, nk_t6, nk_r7, nk_l7, nk_m7, nk_n7, nk_s7, nk_t7, nk_r8, nk_l8, nk_m8, nk_n8, nk_s8, nk_t8, nk_r12, nk_l12, nk_m12, nk_n12, nk_s12, nk_t12, nk_r31, nk_l31, nk_m31, nk_n31, nk_s31, nk_t31, nk_r32, nk_l32, nk_m32, nk_n32, nk_s32, nk_t32, nk_r59, nk_l59, nk_m59, nk_n59, nk_s59, nk_t59, nk_r60, nk_l60, nk_m60, nk_n60, nk_s60, nk_t60, nk_r96, nk_l96, nk_m96, nk_n96, nk_s96, nk_t96, nk_r97, nk_l97, nk_m97, nk_n97, nk_s97, nk_t97, nk_r120, nk_l120, nk_m120, nk_n120, nk_s120, nk_t120, nk_r240, nk_l240, nk_m240, nk_n240, nk_s240, nk_t240, nk_r255, nk_l255, nk_m255, nk_n255, nk_s255, nk_t255, nk_r256, nk_l256, nk_m256, nk_n256, nk_s256, nk_t256, Nat.add_zero, Nat.zero_add, Nat.mul_one, Nat.one_mul, Nat.mul_zero, Nat.zero_mul, Nat.sub_zero, Nat.reduceSub, Nat.reduceMul, Nat.add_sub_cancel, Bool.false_eq_true, Int.add_zero, Int.zero_add, Int.sub_zero, e0, s0, s1, s2, s4, q1, q2, q5, hp0, e1, z140, z0]
      · obtain rfl : o = 0 := by omega
        rw [if_neg ho]
        simp (disch := omega) only [ze_X6_unroll_0, ze_X6_unroll_4, ze_X6_unroll_10, ze_X6_unroll_23, ze_X6_unroll_28, ze_X6_unroll_31, ze_X6_unroll_35, ze_X6_unroll_37, ze_X6_unroll_46, ze_X6_unroll_48, ze_X6_unroll_52, ze_X6_unroll_54, ze_X6_unroll_57, ze_X6_unroll_63, ze_X6_unroll_68, ze_X6_unroll_69, ze_X6_unroll_72, ze_X6_unroll_76, ze_X6_unroll_81, ze_X6_unroll_83, ze_X6_unroll_84, ze_X6_unroll_87, ze_X6_unroll_93, ze_X6_unroll_97, ze_X6_unroll_99, ze_X6_unroll_103, ze_X6_unroll_107, ze_X6_unroll_114, ze_X6_unroll_116, ze_X6_unroll_120, ze_X6_unroll_128, zcal_x, zfh_nil, zfh_cons, zset_0, zset_1, zset_s, zcal_v, zcal_n, zcalI_n, zco_O, zcf_O, zcs_O, zisc_O, zr8_A, zr8_S, zri_A, zri_B, zri_C, zrl_L, zrd_D, zrs_R, zgi_A, zgi_S, zgi_B, zgi_C, zgl_L, zgd_D, zisa_A, zisa_S, zisa_L, zisa_B, zisa_R, zln_A, zln_S, zln_L, zln_B, zln_R, zwi_A, zwl_L, zwd_D, zclr_i, zclr_r, zclr_l, zclr_d, zclr_n, zok_i, zok_l, zok_b0, zok_b1, I_add, I_sub, I_mul, I_neg, J_add, J_sub, J_mul, J_toI, I_ofNat, I_cl, I_J, I_ne2, zup_same, zup_up, zup_ne, zc1_eqB, zc1_neB, zret_b, zret_b0, zret_b1, List.getD_cons_zero, List.getD_cons_succ, List.length_cons, List.length_nil, List.set_cons_zero, List.set_cons_succ, Option.toList, List.cons_append, List.nil_append, Int.cast_ofNat_Int, decide_eq_true_eq, Bool.and_eq_true, and_self, true_and, and_true, if_true, if_false, not_true_eq_false, not_false_eq_true, ↓reduceIte, Nat.reduceAdd, Nat.reduceLT, Nat.reduceLeDiff, Nat.reduceEqDiff, Int.reduceAdd, Int.reduceSub, Int.reduceMul, Int.reduceNeg, Int.reduceLT, Int.reduceLE, Int.reduceEq, Int.reduceToNat, Int.toNat_natCast, Nat.lt_add_one, Nat.zero_lt_succ, q1_eq_t, q1_eq_f, q2_eq_t, q2_eq_f, ql_eq_t, ql_eq_f, q1_ne_t, q1_ne_f, q2_ne_t, q2_ne_f, ql_ne_t, ql_ne_f, q1_lt_t, q1_lt_f, q2_lt_t, q2_lt_f, ql_lt_t, ql_lt_f, q1_ge_t, q1_ge_f, q2_ge_t, q2_ge_f, ql_ge_t, ql_ge_f, q1_gt_t, q1_gt_f, q2_gt_t, q2_gt_f, ql_gt_t, ql_gt_f, q1_le_t, q1_le_f, q2_le_t, q2_le_f, ql_le_t, ql_le_f, zib_t, qb_t, qb_f, nk_add, nk_mul, nk_sub, nk_d1, nk_d0, nk_toNat, nk_r1, nk_l1, nk_m1, nk_n1, nk_s1, nk_t1, nk_r2, nk_l2, nk_m2, nk_n2, nk_s2, nk_t2, nk_r3, nk_l3, nk_m3, nk_n3, nk_s3, nk_t3, nk_r4, nk_l4, nk_m4, nk_n4, nk_s4, nk_t4, nk_r6, nk_l6, nk_m6, nk_n6, nk_s6, nk_t6, nk_r7, nk_l7, nk_m7, nk_n7, nk_s7, nk_t7, nk_r8, nk_l8, nk_m8, nk_n8, nk_s8, nk_t8, nk_r12, nk_l12, nk_m12, nk_n12, nk_s12, nk_t12, nk_r31, nk_l31, nk_m31, nk_n31, nk_s31, nk_t31, nk_r32, nk_l32, nk_m32, nk_n32, nk_s32, nk_t32, nk_r59, nk_l59, nk_m59, nk_n59, nk_s59, nk_t59, nk_r60, nk_l60, nk_m60, nk_n60, nk_s60, nk_t60, nk_r96, nk_l96, nk_m96, nk_n96, nk_s96, nk_t96, nk_r97, nk_l97, nk_m97, nk_n97, nk_s97, nk_t97, nk_r120, nk_l120, nk_m120, nk_n120, nk_s120, nk_t120, nk_r240, nk_l240, nk_m240, nk_n240, nk_s240, nk_t240, nk_r255, nk_l255, nk_m255, nk_n255, nk_s255, nk_t255, nk_r256, nk_l256, nk_m256, nk_n256, nk_s256, nk_t256, Nat.add_zero, Nat.zero_add, Nat.mul_one, Nat.one_mul, Nat.mul_zero, Nat.zero_mul, Nat.sub_zero, Nat.reduceSub, Nat.reduceMul, Nat.add_sub_cancel, Bool.false_eq_true, Int.add_zero, Int.zero_add, Int.sub_zero, e0, s0, s1, s2, s4, q1, q2, q5, hp0, e1, z140, z0]
    · have hak := w4 (by omega)
      have hkL : (if (kd : Int) = 2 then (a : Int) else 0) = 0 := if_neg (by omega)
      by_cases h5 : kd < 5
      · have hnd : nd (s.2.2.1 k) = (kd, 0, sz (s.2.2.1 a) + 1) :: nd (s.2.2.1 a) ∧ sz (s.2.2.1 k) = sz (s.2.2.1 a) + 1 := by
          rw [w2]
          rcases (show kd = 3 ∨ kd = 4 by omega) with h | h <;> rw [h] <;> exact ⟨rfl, rfl⟩
        obtain ⟨f2, K2, L2, Z2, W2, b5, i1, i2, i3, i4, i5, i6, i7, i8⟩ := ih a hak g1 _ _ _ WT (c + 1) o (.int (I kd)) (by omega) hSO1 hpg hL1 z140 (by omega)
        rw [show c + 1 + sz (s.2.2.1 a) = c + sz (s.2.2.1 k) by omega] at i1 i2
        refine ⟨f2, K2, L2, Z2, W2, b5, ?_, i2, ?_, fun i hi => ?_, i5, i6, i7, fun i h1 h2 => (i8 i h1 h2).trans (hgf i h2)⟩
        · rw [ze_X6_unroll_16]
          refine Eq.trans ?_ i1
          simp (disch := omega) only [ze_X6_unroll_0, ze_X6_unroll_4, ze_X6_unroll_10, ze_X6_unroll_23, ze_X6_unroll_28, ze_X6_unroll_31, ze_X6_unroll_35, ze_X6_unroll_37, ze_X6_unroll_46, ze_X6_unroll_48, ze_X6_unroll_52, ze_X6_unroll_54, ze_X6_unroll_57, ze_X6_unroll_63, ze_X6_unroll_68, ze_X6_unroll_69, ze_X6_unroll_72, ze_X6_unroll_76, ze_X6_unroll_81, ze_X6_unroll_83, ze_X6_unroll_84, ze_X6_unroll_87, ze_X6_unroll_93, ze_X6_unroll_97, ze_X6_unroll_99, ze_X6_unroll_103, ze_X6_unroll_107, ze_X6_unroll_114, ze_X6_unroll_116, ze_X6_unroll_120, ze_X6_unroll_128, zcal_x, zfh_nil, zfh_cons, zset_0, zset_1, zset_s, zcal_v, zcal_n, zcalI_n, zco_O, zcf_O, zcs_O, zisc_O, zr8_A, zr8_S, zri_A, zri_B, zri_C, zrl_L, zrd_D, zrs_R, zgi_A, zgi_S, zgi_B, zgi_C, zgl_L, zgd_D, zisa_A, zisa_S, zisa_L, zisa_B, zisa_R, zln_A, zln_S, zln_L, zln_B, zln_R, zwi_A, zwl_L, zwd_D, zclr_i, zclr_r, zclr_l, zclr_d, zclr_n, zok_i, zok_l, zok_b0, zok_b1, I_add, I_sub, I_mul, I_neg, J_add, J_sub, J_mul, J_toI, I_ofNat, I_cl, I_J, I_ne2, zup_same, zup_up, zup_ne, zc1_eqB, zc1_neB, zret_b, zret_b0, zret_b1, List.getD_cons_zero, List.getD_cons_succ, List.length_cons, List.length_nil, List.set_cons_zero, List.set_cons_succ, Option.toList, List.cons_append, List.nil_append, Int.cast_ofNat_Int, decide_eq_true_eq, Bool.and_eq_true, and_self, true_and, and_true, if_true, if_false, not_true_eq_false, not_false_eq_true, ↓reduceIte, Nat.reduceAdd, Nat.reduceLT, Nat.reduceLeDiff, Nat.reduceEqDiff, Int.reduceAdd, Int.reduceSub, Int.reduceMul, Int.reduceNeg, Int.reduceLT, Int.reduceLE, Int.reduceEq, Int.reduceToNat, Int.toNat_natCast, Nat.lt_add_one, Nat.zero_lt_succ, q1_eq_t, q1_eq_f, q2_eq_t, q2_eq_f, ql_eq_t, ql_eq_f, q1_ne_t, q1_ne_f, q2_ne_t, q2_ne_f, ql_ne_t, ql_ne_f, q1_lt_t, q1_lt_f, q2_lt_t, q2_lt_f, ql_lt_t, ql_lt_f, q1_ge_t, q1_ge_f, q2_ge_t, q2_ge_f, ql_ge_t, ql_ge_f, q1_gt_t, q1_gt_f, q2_gt_t, q2_gt_f, ql_gt_t, ql_gt_f, q1_le_t, q1_le_f, q2_le_t, q2_le_f, ql_le_t, ql_le_f, zib_t, qb_t, qb_f, nk_add, nk_mul, nk_sub, nk_d1, nk_d0, nk_toNat, nk_r1, nk_l1, nk_m1, nk_n1, nk_s1, nk_t1, nk_r2, nk_l2, nk_m2, nk_n2, nk_s2, nk_t2, nk_r3, nk_l3, nk_m3, nk_n3, nk_s3, nk_t3, nk_r4, nk_l4, nk_m4, nk_n4, nk_s4, nk_t4, nk_r6, nk_l6, nk_m6, nk_n6, nk_s6, nk_t6, nk_r7, nk_l7, nk_m7, nk_n7, nk_s7, nk_t7, nk_r8, nk_l8, nk_m8, nk_n8, nk_s8, nk_t8, nk_r12, nk_l12, nk_m12, nk_n12, nk_s12, nk_t12, nk_r31, nk_l31, nk_m31, nk_n31, nk_s31, nk_t31, nk_r32, nk_l32, nk_m32, nk_n32, nk_s32, nk_t32, nk_r59, nk_l59, nk_m59, nk_n59, nk_s59, nk_t59, nk_r60, nk_l60, nk_m60, nk_n60, nk_s60, nk_t60, nk_r96, nk_l96, nk_m96, nk_n96, nk_s96, nk_t96, nk_r97, nk_l97, nk_m97, nk_n97, nk_s97, nk_t97, nk_r120, nk_l120, nk_m120, nk_n120, nk_s120, nk_t120, nk_r240, nk_l240, nk_m240, nk_n240, nk_s240, nk_t240, nk_r255, nk_l255, nk_m255, nk_n255, nk_s255, nk_t255, nk_r256, nk_l256, nk_m256, nk_n256, nk_s256, nk_t256, Nat.add_zero, Nat.zero_add, Nat.mul_one, Nat.one_mul, Nat.mul_zero, Nat.zero_mul, Nat.sub_zero, Nat.reduceSub, Nat.reduceMul, Nat.add_sub_cancel, Bool.false_eq_true, Int.add_zero, Int.zero_add, Int.sub_zero, e0, s0, s1, s2, s4, q1, q2, q5, hp0, e1, z0, z13]
        · rw [hnd.1]
          obtain ⟨j1, j2, j3⟩ := i4 c (by omega)
          rw [zst_same] at j1 j2 j3
          exact rep_cons.mpr ⟨⟨j1, j2.trans hkL, by rw [j3, hnd.2]⟩, i3⟩
        · obtain ⟨j1, j2, j3⟩ := i4 i (by omega)
          rw [zst_ne (by omega)] at j1 j2 j3
          exact ⟨j1, j2, j3⟩
      · have hbk := w5 (by omega)
        have hnd : nd (s.2.2.1 k) = (kd, 0, sz (s.2.2.1 a) + sz (s.2.2.1 b) + 1) :: (nd (s.2.2.1 a) ++ nd (s.2.2.1 b)) ∧ sz (s.2.2.1 k) = sz (s.2.2.1 a) + sz (s.2.2.1 b) + 1 := by
          rw [w2]
          rcases (show kd = 5 ∨ kd = 6 by omega) with h | h <;> rw [h] <;> exact ⟨rfl, rfl⟩
        have hszb := sz_pos (s.2.2.1 b)
        obtain ⟨g2, hg2⟩ : ∃ g, g = zup g1 140 (kA 60 (zst WT o (b : Int))) := ⟨_, rfl⟩
        have hSO2 : SO g2 P np s.1 s.2.1 s.2.2.1 := by
          obtain ⟨KS', FS', SS', NS', TS', SL', WT', TB', ⟨u0, u1, u2, u3, u4, u5, u6⟩, u18, u139, u140, urw, urk, uSL, un, uE⟩ := hSO1
          rw [hg2]
          refine ⟨KS', FS', SS', NS', TS', SL', zst WT o (b : Int), TB', ⟨?_, ?_, ?_, ?_, ?_, ?_, ?_⟩, ?_, ?_, zup_same, fun k1 hk1 => ?_, fun k1 hk1 => ?_, uSL, un, uE⟩
          · rw [zup_ne (by omega), u0]
          · rw [zup_ne (by omega), u1]
          · rw [zup_ne (by omega), u2]
          · rw [zup_ne (by omega), u3]
          · rw [zup_ne (by omega), u4]
          · rw [zup_ne (by omega), u5]
          · rw [zup_ne (by omega), u6]
          · rw [zup_ne (by omega), u18]
          · rw [zup_ne (by omega), u139]
          · obtain ⟨Q, hQ⟩ := urw k1 hk1
            exact ⟨Q, by rw [zup_ne (by omega), hQ]⟩
          · obtain ⟨Q, R, hQ⟩ := urk k1 hk1
            exact ⟨Q, R, by rw [zup_ne (by omega)]; exact hQ.1, hQ.2⟩
        have hpg2 : pat g2 210 (c + 1) (zst K c (kd : Int)) (zst L c (if (kd : Int) = 2 then (a : Int) else 0)) (zst Z c (sz (s.2.2.1 k) : Int)) := by
          rw [hg2]
          exact ⟨by rw [zup_ne (by omega), hpg.1], by rw [zup_ne (by omega), hpg.2.1], by rw [zup_ne (by omega), hpg.2.2.1], by rw [zup_ne (by omega), hpg.2.2.2]⟩
        obtain ⟨f2, K2, L2, Z2, W2, b5, i1, i2, i3, i4, i5, i6, i7, i8⟩ := ih a hak g2 _ _ _ (zst WT o (b : Int)) (c + 1) (o + 1) (.int (I kd)) (by omega) hSO2 hpg2 hL1 (by rw [hg2]; exact zup_same) (by omega)
        have hunx : unx W2 (o + 1) = ((b : Int), o) := by
          unfold unx
          rw [if_pos (by omega), Nat.add_sub_cancel, i7 o (by omega), zst_same]
        rw [hunx] at i1
        have hSO3 : SO f2 P np s.1 s.2.1 s.2.2.1 := by
          obtain ⟨KS', FS', SS', NS', TS', SL', WT', TB', ⟨u0, u1, u2, u3, u4, u5, u6⟩, u18, u139, u140, urw, urk, uSL, un, uE⟩ := hSO2
          refine ⟨KS', FS', SS', NS', TS', SL', W2, TB', ⟨?_, ?_, ?_, ?_, ?_, ?_, ?_⟩, ?_, ?_, i6, fun k1 hk1 => ?_, fun k1 hk1 => ?_, uSL, un, uE⟩
          · rw [i8 _ (by omega) (by omega), u0]
          · rw [i8 _ (by omega) (by omega), u1]
          · rw [i8 _ (by omega) (by omega), u2]
          · rw [i8 _ (by omega) (by omega), u3]
          · rw [i8 _ (by omega) (by omega), u4]
          · rw [i8 _ (by omega) (by omega), u5]
          · rw [i8 _ (by omega) (by omega), u6]
          · rw [i8 _ (by omega) (by omega), u18]
          · rw [i8 _ (by omega) (by omega), u139]
          · obtain ⟨Q, hQ⟩ := urw k1 hk1
            exact ⟨Q, by rw [i8 _ (by omega) (by omega), hQ]⟩
          · obtain ⟨Q, R, hQ⟩ := urk k1 hk1
            exact ⟨Q, R, by rw [i8 _ (by omega) (by omega)]; exact hQ.1, hQ.2⟩
        obtain ⟨f3, K3, L3, Z3, W3, c5, j1, j2, j3, j4, j5, j6, j7, j8⟩ := ih b hbk f2 K2 L2 Z2 W2 (c + 1 + sz (s.2.2.1 a)) o b5 (by omega) hSO3 i2 i5 i6 (by omega)
        rw [show c + 1 + sz (s.2.2.1 a) + sz (s.2.2.1 b) = c + sz (s.2.2.1 k) by omega] at j1 j2
        refine ⟨f3, K3, L3, Z3, W3, c5, ?_, j2, ?_, fun i hi => ?_, j5, j6, fun i hi => ?_, fun i h1 h2 => ?_⟩
        · rw [ze_X6_unroll_16]
          refine Eq.trans (Eq.trans ?_ i1) j1
          rw [hg2]
          simp (disch := omega) only [ze_X6_unroll_0, ze_X6_unroll_4, ze_X6_unroll_10, ze_X6_unroll_23, ze_X6_unroll_28, ze_X6_unroll_31, ze_X6_unroll_35, ze_X6_unroll_37, ze_X6_unroll_46, ze_X6_unroll_48, ze_X6_unroll_52, ze_X6_unroll_54, ze_X6_unroll_57, ze_X6_unroll_63, ze_X6_unroll_68, ze_X6_unroll_69, ze_X6_unroll_72, ze_X6_unroll_76, ze_X6_unroll_81, ze_X6_unroll_83, ze_X6_unroll_84, ze_X6_unroll_87, ze_X6_unroll_93, ze_X6_unroll_97, ze_X6_unroll_99, ze_X6_unroll_103, ze_X6_unroll_107, ze_X6_unroll_114, ze_X6_unroll_116, ze_X6_unroll_120, ze_X6_unroll_128, zcal_x, zfh_nil, zfh_cons, zset_0, zset_1, zset_s, zcal_v, zcal_n, zcalI_n, zco_O, zcf_O, zcs_O, zisc_O, zr8_A, zr8_S, zri_A, zri_B, zri_C, zrl_L, zrd_D, zrs_R, zgi_A, zgi_S, zgi_B, zgi_C, zgl_L, zgd_D, zisa_A, zisa_S, zisa_L, zisa_B, zisa_R, zln_A, zln_S, zln_L, zln_B, zln_R, zwi_A, zwl_L, zwd_D, zclr_i, zclr_r, zclr_l, zclr_d, zclr_n, zok_i, zok_l, zok_b0, zok_b1, I_add, I_sub, I_mul, I_neg, J_add, J_sub, J_mul, J_toI, I_ofNat, I_cl, I_J, I_ne2, zup_same, zup_up, zup_ne, zc1_eqB, zc1_neB, zret_b, zret_b0, zret_b1, List.getD_cons_zero, List.getD_cons_succ, List.length_cons, List.length_nil, List.set_cons_zero, List.set_cons_succ, Option.toList, List.cons_append, List.nil_append, Int.cast_ofNat_Int, decide_eq_true_eq, Bool.and_eq_true, and_self, true_and, and_true, if_true, if_false, not_true_eq_false, not_false_eq_true, ↓reduceIte, Nat.reduceAdd, Nat.reduceLT, Nat.reduceLeDiff, Nat.reduceEqDiff, Int.reduceAdd, Int.reduceSub, Int.reduceMul, Int.reduceNeg, Int.reduceLT, Int.reduceLE, Int.reduceEq, Int.reduceToNat, Int.toNat_natCast, Nat.lt_add_one, Nat.zero_lt_succ, q1_eq_t, q1_eq_f, q2_eq_t, q2_eq_f, ql_eq_t, ql_eq_f, q1_ne_t, q1_ne_f, q2_ne_t, q2_ne_f, ql_ne_t, ql_ne_f, q1_lt_t, q1_lt_f, q2_lt_t, q2_lt_f, ql_lt_t, ql_lt_f, q1_ge_t, q1_ge_f, q2_ge_t, q2_ge_f, ql_ge_t, ql_ge_f, q1_gt_t, q1_gt_f, q2_gt_t, q2_gt_f, ql_gt_t, ql_gt_f, q1_le_t, q1_le_f, q2_le_t, q2_le_f, ql_le_t, ql_le_f, zib_t, qb_t, qb_f, nk_add, nk_mul, nk_sub, nk_d1, nk_d0, nk_toNat, nk_r1, nk_l1, nk_m1, nk_n1, nk_s1, nk_t1, nk_r2, nk_l2, nk_m2, nk_n2, nk_s2, nk_t2, nk_r3, nk_l3, nk_m3, nk_n3, nk_s3, nk_t3, nk_r4, nk_l4, nk_m4, nk_n4, nk_s4, nk_t4, nk_r6, nk_l6, nk_m6, nk_n6, nk_s6, nk_t6, nk_r7, nk_l7, nk_m7, nk_n7, nk_s7, nk_t7, nk_r8, nk_l8, nk_m8, nk_n8, nk_s8, nk_t8, nk_r12, nk_l12, nk_m12, nk_n12, nk_s12, nk_t12, nk_r31, nk_l31, nk_m31, nk_n31, nk_s31, nk_t31, nk_r32, nk_l32, nk_m32, nk_n32, nk_s32, nk_t32, nk_r59, nk_l59, nk_m59, nk_n59, nk_s59, nk_t59, nk_r60, nk_l60, nk_m60, nk_n60, nk_s60, nk_t60, nk_r96, nk_l96, nk_m96, nk_n96, nk_s96, nk_t96, nk_r97, nk_l97, nk_m97, nk_n97, nk_s97, nk_t97, nk_r120, nk_l120, nk_m120, nk_n120, nk_s120, nk_t120, nk_r240, nk_l240, nk_m240, nk_n240, nk_s240, nk_t240, nk_r255, nk_l255, nk_m255, nk_n255, nk_s255, nk_t255, nk_r256, nk_l256, nk_m256, nk_n256, nk_s256, nk_t256, Nat.add_zero, Nat.zero_add, Nat.mul_one, Nat.one_mul, Nat.mul_zero, Nat.zero_mul, Nat.sub_zero, Nat.reduceSub, Nat.reduceMul, Nat.add_sub_cancel, Bool.false_eq_true, Int.add_zero, Int.zero_add, Int.sub_zero, e0, s0, s1, s2, s4, q1, q2, q3, q5, hp0, e1, z0, z13, z14, z140]
        · rw [hnd.1]
          obtain ⟨l1, l2, l3⟩ := j4 c (by omega)
          obtain ⟨m1, m2, m3⟩ := i4 c (by omega)
          rw [zst_same] at m1 m2 m3
          refine rep_cons.mpr ⟨⟨l1.trans m1, l2.trans (m2.trans hkL), by rw [l3, m3, hnd.2]⟩, (rep_app _ _).mpr ⟨fun i hi => ?_, by rw [nd_len]; exact j3⟩⟩
          have h6 := i3 i hi
          rw [nd_len] at hi
          obtain ⟨l1, l2, l3⟩ := j4 (c + 1 + i) (by omega)
          rw [l1, l2, l3]
          exact h6
        · obtain ⟨l1, l2, l3⟩ := j4 i (by omega)
          obtain ⟨m1, m2, m3⟩ := i4 i (by omega)
          rw [zst_ne (by omega)] at m1 m2 m3
          exact ⟨l1.trans m1, l2.trans m2, l3.trans m3⟩
        · rw [j7 i hi, i7 i (by omega), zst_ne (by omega)]
        · rw [j8 i h1 h2, i8 i h1 h2, hg2, zup_ne h1, hgf i h2]
theorem s_unroll (hd : 3 ≤ d) {f : zF} (hEW : EW s) (h1 : 1 ≤ s.1) (hSO : SO f P np s.1 s.2.1 s.2.2.1) {c0 : Nat} {K L Z : Nat → Int} (hp : pat f 210 c0 K L Z) (hL : ∀ i, 0 ≤ L i ∧ L i < 256) : ∃ (f' : zF) (WT : Nat → Int), zrun zTb d 63 [.ref 11, .ref 210] f m = some (.inl none, f', m) ∧ pt f' 210 (s.2.2.1 (s.1 - 1)) ∧ f' 140 = some (kA 60 WT) ∧ ∀ i, i ≠ 140 → (i < 210 ∨ 213 < i) → f' i = f i := by
  obtain ⟨d, rfl⟩ : ∃ e, d = e + 1 := ⟨d - 1, by omega⟩
  have hw := hEW.2.1 (s.1 - 1) (by omega)
  have hn120 := hEW.1
  have e1 := s_X2_becomeNoNodes (d := d) (m := m) (by omega) hp
  have hSO1 : SO (setp f 210 0 K L Z) P np s.1 s.2.1 s.2.2.1 := SO_fre (a := 210) (b := 213) (fun i hi => setp_ne (by omega)) (by omega) hSO
  obtain ⟨KS, FS, SS, NS, TS, SL, WT0, TB, hsto, h18, h139, h140, hrw, hrk, hSL, hn, hE⟩ := id hSO1
  have y11 := hsto.1
  obtain ⟨f2, K2, L2, Z2, W2, b5, i1, i2, i3, i4, i5, i6, i7, i8⟩ := un_l (d := d) (m := m) (by omega) hEW (s.1 - 1) (setp f 210 0 K L Z) K L Z WT0 0 0 .null (by omega) hSO1 pat_setp hL h140 (by omega)
  rw [Nat.zero_add] at i1 i2
  refine ⟨f2, W2, ?_, ⟨K2, L2, Z2, i2, i3, i5⟩, i6, fun i h2 h3 => (i8 i h2 h3).trans (setp_ne (by omega))⟩
  have z11 : f2 11 = _ := (i8 11 (by omega) (by omega)).trans y11
  have hsto2 : sto f2 s.1 KS FS SS NS TS (fun k => (TB k : Int)) := by
    obtain ⟨s0, s1, s2, s3, s4, s5, s6⟩ := hsto
    exact ⟨(i8 _ (by omega) (by omega)).trans s0, (i8 _ (by omega) (by omega)).trans s1, (i8 _ (by omega) (by omega)).trans s2, (i8 _ (by omega) (by omega)).trans s3, (i8 _ (by omega) (by omega)).trans s4, (i8 _ (by omega) (by omega)).trans s5, (i8 _ (by omega) (by omega)).trans s6⟩
  have e2 := s_X6_has (d := d) (m := m) (j := -1) (by omega) hsto2 hn (by omega) (by omega)
  rw [if_neg (by omega)] at e2
  rw [show unx W2 0 = (-1, 0) from rfl] at i1
  rw [show ((0 : Nat) : Int) = 0 from rfl] at i1
  rw [zs_X6_unroll]
  refine Eq.trans (Eq.trans ?_ i1) ?_
  · simp (disch := omega) only [ze_X6_unroll_0, ze_X6_unroll_4, ze_X6_unroll_10, ze_X6_unroll_23, ze_X6_unroll_28, ze_X6_unroll_31, ze_X6_unroll_35, ze_X6_unroll_37, ze_X6_unroll_46, ze_X6_unroll_48, ze_X6_unroll_52, ze_X6_unroll_54, ze_X6_unroll_57, ze_X6_unroll_63, ze_X6_unroll_68, ze_X6_unroll_69, ze_X6_unroll_72, ze_X6_unroll_76, ze_X6_unroll_81, ze_X6_unroll_83, ze_X6_unroll_84, ze_X6_unroll_87, ze_X6_unroll_93, ze_X6_unroll_97, ze_X6_unroll_99, ze_X6_unroll_103, ze_X6_unroll_107, ze_X6_unroll_114, ze_X6_unroll_116, ze_X6_unroll_120, ze_X6_unroll_128, zcal_x, zfh_nil, zfh_cons, zset_0, zset_1, zset_s, zcal_v, zcal_n, zcalI_n, zco_O, zcf_O, zcs_O, zisc_O, zr8_A, zr8_S, zri_A, zri_B, zri_C, zrl_L, zrd_D, zrs_R, zgi_A, zgi_S, zgi_B, zgi_C, zgl_L, zgd_D, zisa_A, zisa_S, zisa_L, zisa_B, zisa_R, zln_A, zln_S, zln_L, zln_B, zln_R, zwi_A, zwl_L, zwd_D, zclr_i, zclr_r, zclr_l, zclr_d, zclr_n, zok_i, zok_l, zok_b0, zok_b1, I_add, I_sub, I_mul, I_neg, J_add, J_sub, J_mul, J_toI, I_ofNat, I_cl, I_J, I_ne2, zup_same, zup_up, zup_ne, zc1_eqB, zc1_neB, zret_b, zret_b0, zret_b1, List.getD_cons_zero, List.getD_cons_succ, List.length_cons, List.length_nil, List.set_cons_zero, List.set_cons_succ, Option.toList, List.cons_append, List.nil_append, Int.cast_ofNat_Int, decide_eq_true_eq, Bool.and_eq_true, and_self, true_and, and_true, if_true, if_false, not_true_eq_false, not_false_eq_true, ↓reduceIte, Nat.reduceAdd, Nat.reduceLT, Nat.reduceLeDiff, Nat.reduceEqDiff, Int.reduceAdd, Int.reduceSub, Int.reduceMul, Int.reduceNeg, Int.reduceLT, Int.reduceLE, Int.reduceEq, Int.reduceToNat, Int.toNat_natCast, Nat.lt_add_one, Nat.zero_lt_succ, q1_eq_t, q1_eq_f, q2_eq_t, q2_eq_f, ql_eq_t, ql_eq_f, q1_ne_t, q1_ne_f, q2_ne_t, q2_ne_f, ql_ne_t, ql_ne_f, q1_lt_t, q1_lt_f, q2_lt_t, q2_lt_f, ql_lt_t, ql_lt_f, q1_ge_t, q1_ge_f, q2_ge_t, q2_ge_f, ql_ge_t, ql_ge_f, q1_gt_t, q1_gt_f, q2_gt_t, q2_gt_f, ql_gt_t, ql_gt_f, q1_le_t, q1_le_f, q2_le_t, q2_le_f, ql_le_t, ql_le_f, zib_t, qb_t, qb_f, nk_add, nk_mul, nk_sub, nk_d1, nk_d0, nk_toNat, nk_r1, nk_l1, nk_m1, nk_n1, nk_s1, nk_t1, nk_r2, nk_l2, nk_m2, nk_n2, nk_s2, nk_t2, nk_r3, nk_l3, nk_m3, nk_n3, nk_s3, nk_t3, nk_r4, nk_l4, nk_m4, nk_n4, nk_s4, nk_t4, nk_r6, nk_l6, nk_m6, nk_n6, nk_s6, nk_t6, nk_r7, nk_l7, nk_m7, nk_n7, nk_s7, nk_t7, nk_r8, nk_l8, nk_m8, nk_n8, nk_s8, nk_t8, nk_r12, nk_l12, nk_m12, nk_n12, nk_s12, nk_t12, nk_r31, nk_l31, nk_m31, nk_n31, nk_s31, nk_t31, nk_r32, nk_l32, nk_m32, nk_n32, nk_s32, nk_t32, nk_r59, nk_l59, nk_m59, nk_n59, nk_s59, nk_t59, nk_r60, nk_l60, nk_m60, nk_n60, nk_s60, nk_t60, nk_r96, nk_l96, nk_m96, nk_n96, nk_s96, nk_t96, nk_r97, nk_l97, nk_m97, nk_n97, nk_s97, nk_t97, nk_r120, nk_l120, nk_m120, nk_n120, nk_s120, nk_t120, nk_r240, nk_l240, nk_m240, nk_n240, nk_s240, nk_t240, nk_r255, nk_l255, nk_m255, nk_n255, nk_s255, nk_t255, nk_r256, nk_l256, nk_m256, nk_n256, nk_s256, nk_t256, Nat.add_zero, Nat.zero_add, Nat.mul_one, Nat.one_mul, Nat.mul_zero, Nat.zero_mul, Nat.sub_zero, Nat.reduceSub, Nat.reduceMul, Nat.add_sub_cancel, Bool.false_eq_true, Int.add_zero, Int.zero_add, Int.sub_zero, hp.1, e1, y11]
  · rw [ze_X6_unroll_16]
    by_cases h60 : sz (s.2.2.1 (s.1 - 1)) < 60
    · simp (disch := omega) only [ze_X6_unroll_0, ze_X6_unroll_4, ze_X6_unroll_10, ze_X6_unroll_23, ze_X6_unroll_28, ze_X6_unroll_31, ze_X6_unroll_35, ze_X6_unroll_37, ze_X6_unroll_46, ze_X6_unroll_48, ze_X6_unroll_52, ze_X6_unroll_54, ze_X6_unroll_57, ze_X6_unroll_63, ze_X6_unroll_68, ze_X6_unroll_69, ze_X6_unroll_72, ze_X6_unroll_76, ze_X6_unroll_81, ze_X6_unroll_83, ze_X6_unroll_84, ze_X6_unroll_87, ze_X6_unroll_93, ze_X6_unroll_97, ze_X6_unroll_99, ze_X6_unroll_103, ze_X6_unroll_107, ze_X6_unroll_114, ze_X6_unroll_116, ze_X6_unroll_120, ze_X6_unroll_128, zcal_x, zfh_nil, zfh_cons, zset_0, zset_1, zset_s, zcal_v, zcal_n, zcalI_n, zco_O, zcf_O, zcs_O, zisc_O, zr8_A, zr8_S, zri_A, zri_B, zri_C, zrl_L, zrd_D, zrs_R, zgi_A, zgi_S, zgi_B, zgi_C, zgl_L, zgd_D, zisa_A, zisa_S, zisa_L, zisa_B, zisa_R, zln_A, zln_S, zln_L, zln_B, zln_R, zwi_A, zwl_L, zwd_D, zclr_i, zclr_r, zclr_l, zclr_d, zclr_n, zok_i, zok_l, zok_b0, zok_b1, I_add, I_sub, I_mul, I_neg, J_add, J_sub, J_mul, J_toI, I_ofNat, I_cl, I_J, I_ne2, zup_same, zup_up, zup_ne, zc1_eqB, zc1_neB, zret_b, zret_b0, zret_b1, List.getD_cons_zero, List.getD_cons_succ, List.length_cons, List.length_nil, List.set_cons_zero, List.set_cons_succ, Option.toList, List.cons_append, List.nil_append, Int.cast_ofNat_Int, decide_eq_true_eq, Bool.and_eq_true, and_self, true_and, and_true, if_true, if_false, not_true_eq_false, not_false_eq_true, ↓reduceIte, Nat.reduceAdd, Nat.reduceLT, Nat.reduceLeDiff, Nat.reduceEqDiff, Int.reduceAdd, Int.reduceSub, Int.reduceMul, Int.reduceNeg, Int.reduceLT, Int.reduceLE, Int.reduceEq, Int.reduceToNat, Int.toNat_natCast, Nat.lt_add_one, Nat.zero_lt_succ, q1_eq_t, q1_eq_f, q2_eq_t, q2_eq_f, ql_eq_t, ql_eq_f, q1_ne_t, q1_ne_f, q2_ne_t, q2_ne_f, ql_ne_t, ql_ne_f, q1_lt_t, q1_lt_f, q2_lt_t, q2_lt_f, ql_lt_t, ql_lt_f, q1_ge_t, q1_ge_f, q2_ge_t, q2_ge_f, ql_ge_t, ql_ge_f, q1_gt_t, q1_gt_f, q2_gt_t, q2_gt_f, ql_gt_t, ql_gt_f, q1_le_t, q1_le_f, q2_le_t, q2_le_f, ql_le_t, ql_le_f, zib_t, qb_t, qb_f, nk_add, nk_mul, nk_sub, nk_d1, nk_d0, nk_toNat, nk_r1, nk_l1, nk_m1, nk_n1, nk_s1, nk_t1, nk_r2, nk_l2, nk_m2, nk_n2, nk_s2, nk_t2, nk_r3, nk_l3, nk_m3, nk_n3, nk_s3, nk_t3, nk_r4, nk_l4, nk_m4, nk_n4, nk_s4, nk_t4, nk_r6, nk_l6, nk_m6, nk_n6, nk_s6, nk_t6, nk_r7, nk_l7, nk_m7, nk_n7, nk_s7, nk_t7, nk_r8, nk_l8, nk_m8, nk_n8, nk_s8, nk_t8, nk_r12, nk_l12, nk_m12, nk_n12, nk_s12, nk_t12, nk_r31, nk_l31, nk_m31, nk_n31, nk_s31, nk_t31, nk_r32, nk_l32, nk_m32, nk_n32, nk_s32, nk_t32, nk_r59, nk_l59, nk_m59, nk_n59, nk_s59, nk_t59, nk_r60, nk_l60, nk_m60, nk_n60, nk_s60, nk_t60, nk_r96, nk_l96, nk_m96, nk_n96, nk_s96, nk_t96, nk_r97, nk_l97, nk_m97, nk_n97, nk_s97, nk_t97, nk_r120, nk_l120, nk_m120, nk_n120, nk_s120, nk_t120, nk_r240, nk_l240, nk_m240, nk_n240, nk_s240, nk_t240, nk_r255, nk_l255, nk_m255, nk_n255, nk_s255, nk_t255, nk_r256, nk_l256, nk_m256, nk_n256, nk_s256, nk_t256, Nat.add_zero, Nat.zero_add, Nat.mul_one, Nat.one_mul, Nat.mul_zero, Nat.zero_mul, Nat.sub_zero, Nat.reduceSub, Nat.reduceMul, Nat.add_sub_cancel, Bool.false_eq_true, Int.add_zero, Int.zero_add, Int.sub_zero, e2, z11]
    · simp (disch := omega) only [ze_X6_unroll_0, ze_X6_unroll_4, ze_X6_unroll_10, ze_X6_unroll_23, ze_X6_unroll_28, ze_X6_unroll_31, ze_X6_unroll_35, ze_X6_unroll_37, ze_X6_unroll_46, ze_X6_unroll_48, ze_X6_unroll_52, ze_X6_unroll_54, ze_X6_unroll_57, ze_X6_unroll_63, ze_X6_unroll_68, ze_X6_unroll_69, ze_X6_unroll_72, ze_X6_unroll_76, ze_X6_unroll_81, ze_X6_unroll_83, ze_X6_unroll_84, ze_X6_unroll_87, ze_X6_unroll_93, ze_X6_unroll_97, ze_X6_unroll_99, ze_X6_unroll_103, ze_X6_unroll_107, ze_X6_unroll_114, ze_X6_unroll_116, ze_X6_unroll_120, ze_X6_unroll_128, zcal_x, zfh_nil, zfh_cons, zset_0, zset_1, zset_s, zcal_v, zcal_n, zcalI_n, zco_O, zcf_O, zcs_O, zisc_O, zr8_A, zr8_S, zri_A, zri_B, zri_C, zrl_L, zrd_D, zrs_R, zgi_A, zgi_S, zgi_B, zgi_C, zgl_L, zgd_D, zisa_A, zisa_S, zisa_L, zisa_B, zisa_R, zln_A, zln_S, zln_L, zln_B, zln_R, zwi_A, zwl_L, zwd_D, zclr_i, zclr_r, zclr_l, zclr_d, zclr_n, zok_i, zok_l, zok_b0, zok_b1, I_add, I_sub, I_mul, I_neg, J_add, J_sub, J_mul, J_toI, I_ofNat, I_cl, I_J, I_ne2, zup_same, zup_up, zup_ne, zc1_eqB, zc1_neB, zret_b, zret_b0, zret_b1, List.getD_cons_zero, List.getD_cons_succ, List.length_cons, List.length_nil, List.set_cons_zero, List.set_cons_succ, Option.toList, List.cons_append, List.nil_append, Int.cast_ofNat_Int, decide_eq_true_eq, Bool.and_eq_true, and_self, true_and, and_true, if_true, if_false, not_true_eq_false, not_false_eq_true, ↓reduceIte, Nat.reduceAdd, Nat.reduceLT, Nat.reduceLeDiff, Nat.reduceEqDiff, Int.reduceAdd, Int.reduceSub, Int.reduceMul, Int.reduceNeg, Int.reduceLT, Int.reduceLE, Int.reduceEq, Int.reduceToNat, Int.toNat_natCast, Nat.lt_add_one, Nat.zero_lt_succ, q1_eq_t, q1_eq_f, q2_eq_t, q2_eq_f, ql_eq_t, ql_eq_f, q1_ne_t, q1_ne_f, q2_ne_t, q2_ne_f, ql_ne_t, ql_ne_f, q1_lt_t, q1_lt_f, q2_lt_t, q2_lt_f, ql_lt_t, ql_lt_f, q1_ge_t, q1_ge_f, q2_ge_t, q2_ge_f, ql_ge_t, ql_ge_f, q1_gt_t, q1_gt_f, q2_gt_t, q2_gt_f, ql_gt_t, ql_gt_f, q1_le_t, q1_le_f, q2_le_t, q2_le_f, ql_le_t, ql_le_f, zib_t, qb_t, qb_f, nk_add, nk_mul, nk_sub, nk_d1, nk_d0, nk_toNat, nk_r1, nk_l1, nk_m1, nk_n1, nk_s1, nk_t1, nk_r2, nk_l2, nk_m2, nk_n2, nk_s2, nk_t2, nk_r3, nk_l3, nk_m3, nk_n3, nk_s3, nk_t3, nk_r4, nk_l4, nk_m4, nk_n4, nk_s4, nk_t4, nk_r6, nk_l6, nk_m6, nk_n6, nk_s6, nk_t6, nk_r7, nk_l7, nk_m7, nk_n7, nk_s7, nk_t7, nk_r8, nk_l8, nk_m8, nk_n8, nk_s8, nk_t8, nk_r12, nk_l12, nk_m12, nk_n12, nk_s12, nk_t12, nk_r31, nk_l31, nk_m31, nk_n31, nk_s31, nk_t31, nk_r32, nk_l32, nk_m32, nk_n32, nk_s32, nk_t32, nk_r59, nk_l59, nk_m59, nk_n59, nk_s59, nk_t59, nk_r60, nk_l60, nk_m60, nk_n60, nk_s60, nk_t60, nk_r96, nk_l96, nk_m96, nk_n96, nk_s96, nk_t96, nk_r97, nk_l97, nk_m97, nk_n97, nk_s97, nk_t97, nk_r120, nk_l120, nk_m120, nk_n120, nk_s120, nk_t120, nk_r240, nk_l240, nk_m240, nk_n240, nk_s240, nk_t240, nk_r255, nk_l255, nk_m255, nk_n255, nk_s255, nk_t255, nk_r256, nk_l256, nk_m256, nk_n256, nk_s256, nk_t256, Nat.add_zero, Nat.zero_add, Nat.mul_one, Nat.one_mul, Nat.mul_zero, Nat.zero_mul, Nat.sub_zero, Nat.reduceSub, Nat.reduceMul, Nat.add_sub_cancel, Bool.false_eq_true, Int.add_zero, Int.zero_add, Int.sub_zero, e2, z11]
end
