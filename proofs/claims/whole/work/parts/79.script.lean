/-! SPECS: the class writes a pattern's text -/
def cb (b : Bool) : Nat := if b = true then 2 else 0
def ct : zE → Nat
  | .num _ => 1
  | .var _ => 1
  | .mulR _ _ => 1
  | .neg p => (1 + (ct p + cb (decide (3 ≤ kd p)))) + 1
  | .mulL _ p => (1 + (ct p + cb (decide (3 ≤ kd p)))) + 1
  | .sub p q => ((ct q + cb (decide (5 ≤ kd q))) + (ct p + cb (decide (kd p = 6)))) + 1
  | .add p q => ((ct q + cb (decide (kd q = 6))) + (1 + ct p)) + 1
theorem cb_le {b : Bool} : cb b ≤ 2 := by
  unfold cb
  split <;> omega
theorem ct_le : ∀ t, ct t + 3 ≤ 4 * sz t
  | .num _ => Nat.le_refl _
  | .var _ => Nat.le_refl _
  | .mulR _ _ => Nat.le_refl _
  | .neg p => by
    have := ct_le p
    have := cb_le (b := decide (3 ≤ kd p))
    show (1 + (ct p + cb (decide (3 ≤ kd p)))) + 1 + 3 ≤ 4 * (sz p + 1)
    omega
  | .mulL _ p => by
    have := ct_le p
    have := cb_le (b := decide (3 ≤ kd p))
    show (1 + (ct p + cb (decide (3 ≤ kd p)))) + 1 + 3 ≤ 4 * (sz p + 1)
    omega
  | .sub p q => by
    have := ct_le p
    have := ct_le q
    have := cb_le (b := decide (5 ≤ kd q))
    have := cb_le (b := decide (kd p = 6))
    show ((ct q + cb (decide (5 ≤ kd q))) + (ct p + cb (decide (kd p = 6)))) + 1 + 3 ≤ 4 * (sz p + sz q + 1)
    omega
  | .add p q => by
    have := ct_le p
    have := ct_le q
    have := cb_le (b := decide (kd q = 6))
    show ((ct q + cb (decide (kd q = 6))) + (1 + ct p)) + 1 + 3 ≤ 4 * (sz p + sz q + 1)
    omega
def NP (d N : Nat) (K L Z : Nat → Int) (l : List Nat) (c : Nat) (its : List Int) : Prop := its.length ≤ c ∧ ∀ (f : zF) (m : zM) (n o s : Nat) (SG IT : Nat → Int) (v : Value), pat f 210 N K L Z → scr f n (o + its.length) SG IT → stk IT o its → n + l.length ≤ 180 → s + c ≤ 240 → o + c ≤ 238 → ∃ (f' : zF) (SG' IT' : Nat → Int) (v' : Value), zex zTb d zqX4_write 17 [.ref 214, .ref 210, .int (I s), v] [] f m = zex zTb d zqX4_write 17 [.ref 214, .ref 210, .int (I (s + c : Nat)), v'] [] f' m ∧ pat f' 210 N K L Z ∧ scr f' (n + l.length) o SG' IT' ∧ fre 214 216 f f' ∧ arr SG' n l ∧ (∀ i, i < n → SG' i = SG i) ∧ ∀ i, i < o → IT' i = IT i
section
variable {d N : Nat} {K L Z : Nat → Int} {p q t : zE} {b : Bool}
theorem np_app {l1 l2 : List Nat} {c1 c2 : Nat} {i1 i2 : List Int} (h1 : NP d N K L Z l1 c1 i1) (h2 : NP d N K L Z l2 c2 i2) : NP d N K L Z (l2 ++ l1) (c1 + c2) (i1 ++ i2) := by
  refine ⟨by rw [List.length_append]; have := h1.1; have := h2.1; omega, ?_⟩
  intro f m n o s SG IT v hp hs hk hn hS hO
  rw [List.length_append] at hs hn
  have := h1.1
  have := h2.1
  obtain ⟨k1, k2⟩ := (stk_app _ _).mp hk
  obtain ⟨f2, SG2, IT2, v2, e2, a1, a2, a3, a4, a5, a6⟩ := h2.2 f m n (o + i1.length) s SG IT v hp (by rw [show o + i1.length + i2.length = o + (i1.length + i2.length) by omega]; exact hs) k2 (by omega) (by omega) (by omega)
  obtain ⟨f1, SG1, IT1, v1, e1, b1, b2, b3, b4, b5, b6⟩ := h1.2 f2 m (n + l2.length) o (s + c2) SG2 IT2 v2 a1 a2 (fun i hi => by rw [a6 _ (by omega)]; exact k1 i hi) (by omega) (by omega) (by omega)
  refine ⟨f1, SG1, IT1, v1, ?_, b1, ?_, fre_trans a3 b3, arr_app _ _ (fun i hi => by rw [b5 _ (by omega)]; exact a4 i hi) b4, fun i hi => (b5 i (by omega)).trans (a5 i hi), fun i hi => (b6 i hi).trans (a6 i (by omega))⟩
  · rw [e2, e1, show s + c2 + c1 = s + (c1 + c2) by omega]
  · rw [List.length_append, show n + (l2.length + l1.length) = n + l2.length + l1.length by omega]; exact b2
theorem scr_pop {f : zF} {n o : Nat} {SG IT : Nat → Int} (hs : scr f n (o + 1) SG IT) : scr (zup f 214 (kO 4 [.ref 215, .int (I n), .ref 216, .int (I o)])) n o SG IT ∧ fre 214 216 f (zup f 214 (kO 4 [.ref 215, .int (I n), .ref 216, .int (I o)])) := by
  obtain ⟨s0, s1, s2⟩ := hs
  exact ⟨⟨zup_same, by simp (disch := omega) only [zup_ne, s1], by simp (disch := omega) only [zup_ne, s2]⟩, fre_up (by omega) (by omega)⟩
theorem np_sign {c : Nat} (hd : 1 ≤ d) (hc : 1 ≤ c) (hc2 : c < 65536) : NP d N K L Z [c] 1 [-(c : Int)] := by
  refine ⟨Nat.le_refl _, ?_⟩
  intro f m n o s SG IT v hp hs hk hn hS hO
  rw [List.length_singleton] at hs hn
  obtain ⟨p1, p2⟩ := scr_pop hs
  have k0 := stk_one.mp hk
  obtain ⟨f1, e1, a1, a2⟩ := s_put (m := m) hd p1 (by omega) (c : Int)
  have hp1 := fre_pat p2 hp (by omega)
  refine ⟨f1, _, _, .int (I (-(c : Int))), ?_, fre_pat a2 hp1 (by omega), a1, fre_trans p2 a2, arr_one zst_same, fun i hi => zst_ne (by omega), fun i hi => rfl⟩
  rw [ze_X4_write_17]
  obtain ⟨s0, s1, s2⟩ := hs
  have p0 := p1.1
  have hg : ∀ z : Nat → Int, z o = -(c : Int) → zgi (kA 240 z) o = I (-(c : Int)) := fun z hz => by rw [zgi_A, hz]
  simp (disch := omega) only [ze_X4_write_0, ze_X4_write_5, ze_X4_write_10, ze_X4_write_15, ze_X4_write_24, ze_X4_write_28, ze_X4_write_31, ze_X4_write_36, ze_X4_write_41, ze_X4_write_45, ze_X4_write_49, ze_X4_write_50, ze_X4_write_55, ze_X4_write_61, ze_X4_write_64, ze_X4_write_70, ze_X4_write_76, zcal_x, zfh_nil, zfh_cons, zset_0, zset_1, zset_s, zcal_v, zcal_n, zcalI_n, zco_O, zcf_O, zcs_O, zisc_O, zr8_A, zr8_S, zri_A, zri_B, zri_C, zrl_L, zrd_D, zrs_R, zgi_A, zgi_S, zgi_B, zgi_C, zgl_L, zgd_D, zisa_A, zisa_S, zisa_L, zisa_B, zisa_R, zln_A, zln_S, zln_L, zln_B, zln_R, zwi_A, zwl_L, zwd_D, zclr_i, zclr_r, zclr_l, zclr_d, zclr_n, zok_i, zok_l, zok_b0, zok_b1, I_add, I_sub, I_mul, I_neg, J_add, J_sub, J_mul, J_toI, I_ofNat, I_cl, I_J, I_ne2, zup_same, zup_up, zup_ne, zc1_eqB, zc1_neB, zret_b, zret_b0, zret_b1, List.getD_cons_zero, List.getD_cons_succ, List.length_cons, List.length_nil, List.set_cons_zero, List.set_cons_succ, Option.toList, List.cons_append, List.nil_append, Int.cast_ofNat_Int, decide_eq_true_eq, Bool.and_eq_true, and_self, true_and, and_true, if_true, if_false, not_true_eq_false, not_false_eq_true, ↓reduceIte, Nat.reduceAdd, Nat.reduceLT, Nat.reduceLeDiff, Nat.reduceEqDiff, Int.reduceAdd, Int.reduceSub, Int.reduceMul, Int.reduceNeg, Int.reduceLT, Int.reduceLE, Int.reduceEq, Int.reduceToNat, Int.toNat_natCast, Nat.lt_add_one, Nat.zero_lt_succ, q1_eq_t, q1_eq_f, q2_eq_t, q2_eq_f, ql_eq_t, ql_eq_f, q1_ne_t, q1_ne_f, q2_ne_t, q2_ne_f, ql_ne_t, ql_ne_f, q1_lt_t, q1_lt_f, q2_lt_t, q2_lt_f, ql_lt_t, ql_lt_f, q1_ge_t, q1_ge_f, q2_ge_t, q2_ge_f, ql_ge_t, ql_ge_f, q1_gt_t, q1_gt_f, q2_gt_t, q2_gt_f, ql_gt_t, ql_gt_f, q1_le_t, q1_le_f, q2_le_t, q2_le_f, ql_le_t, ql_le_f, zib_t, qb_t, qb_f, nk_add, nk_mul, nk_sub, nk_d1, nk_d0, nk_toNat, nk_r1, nk_l1, nk_m1, nk_n1, nk_s1, nk_t1, nk_r2, nk_l2, nk_m2, nk_n2, nk_s2, nk_t2, nk_r3, nk_l3, nk_m3, nk_n3, nk_s3, nk_t3, nk_r4, nk_l4, nk_m4, nk_n4, nk_s4, nk_t4, nk_r6, nk_l6, nk_m6, nk_n6, nk_s6, nk_t6, nk_r7, nk_l7, nk_m7, nk_n7, nk_s7, nk_t7, nk_r8, nk_l8, nk_m8, nk_n8, nk_s8, nk_t8, nk_r12, nk_l12, nk_m12, nk_n12, nk_s12, nk_t12, nk_r31, nk_l31, nk_m31, nk_n31, nk_s31, nk_t31, nk_r32, nk_l32, nk_m32, nk_n32, nk_s32, nk_t32, nk_r59, nk_l59, nk_m59, nk_n59, nk_s59, nk_t59, nk_r60, nk_l60, nk_m60, nk_n60, nk_s60, nk_t60, nk_r96, nk_l96, nk_m96, nk_n96, nk_s96, nk_t96, nk_r97, nk_l97, nk_m97, nk_n97, nk_s97, nk_t97, nk_r120, nk_l120, nk_m120, nk_n120, nk_s120, nk_t120, nk_r240, nk_l240, nk_m240, nk_n240, nk_s240, nk_t240, nk_r255, nk_l255, nk_m255, nk_n255, nk_s255, nk_t255, nk_r256, nk_l256, nk_m256, nk_n256, nk_s256, nk_t256, Nat.add_zero, Nat.zero_add, Nat.mul_one, Nat.one_mul, Nat.mul_zero, Nat.zero_mul, Nat.sub_zero, Nat.reduceSub, Nat.reduceMul, Nat.add_sub_cancel, Bool.false_eq_true, Int.add_zero, Int.zero_add, Int.sub_zero, zfty_4_3, s0, s2, k0, e1, p0, Int.neg_neg]
theorem np_node {x c : Nat} {l : List Nat} {its : List Int} (hd : 5 ≤ d) (hx : x < 60)
  (hP : ∀ (f : zF) (m : zM) (n o : Nat) (SG IT : Nat → Int), pat f 210 N K L Z → scr f n o SG IT → o + c ≤ 238 → ∃ (f' : zF) (IT' : Nat → Int), zrun zTb d 36 [.ref 214, .ref 210, .int (I x)] f m = some (.inl none, f', m) ∧ scr f' n (o + its.length) SG IT' ∧ fre 214 216 f f' ∧ stk IT' o its ∧ ∀ i, i < o → IT' i = IT i)
  (h : NP d N K L Z l c its) : NP d N K L Z l (c + 1) [(x : Int)] := by
  refine ⟨by rw [List.length_singleton]; omega, ?_⟩
  intro f m n o s SG IT v hp hs hk hn hS hO
  rw [List.length_singleton] at hs
  obtain ⟨p1, p2⟩ := scr_pop hs
  have k0 := stk_one.mp hk
  have hp1 := fre_pat p2 hp (by omega)
  obtain ⟨f1, IT1, e1, a1, a2, a3, a4⟩ := hP _ m n o SG IT hp1 p1 (by omega)
  obtain ⟨f2, SG2, IT2, v2, e2, b1, b2, b3, b4, b5, b6⟩ := h.2 f1 m n o (s + 1) SG IT1 (.int (I (x : Int))) (fre_pat a2 hp1 (by omega)) a1 a3 hn (by omega) (by omega)
  refine ⟨f2, SG2, IT2, v2, ?_, b1, b2, fre_trans p2 (fre_trans a2 b3), b4, b5, fun i hi => (b6 i hi).trans (a4 i hi)⟩
  rw [ze_X4_write_17]
  obtain ⟨s0, s1, s2⟩ := hs
  have p0 := p1.1
  rw [show s + 1 + c = s + (c + 1) by omega] at e2
  simp (disch := omega) only [ze_X4_write_0, ze_X4_write_5, ze_X4_write_10, ze_X4_write_15, ze_X4_write_24, ze_X4_write_28, ze_X4_write_31, ze_X4_write_36, ze_X4_write_41, ze_X4_write_45, ze_X4_write_49, ze_X4_write_50, ze_X4_write_55, ze_X4_write_61, ze_X4_write_64, ze_X4_write_70, ze_X4_write_76, zcal_x, zfh_nil, zfh_cons, zset_0, zset_1, zset_s, zcal_v, zcal_n, zcalI_n, zco_O, zcf_O, zcs_O, zisc_O, zr8_A, zr8_S, zri_A, zri_B, zri_C, zrl_L, zrd_D, zrs_R, zgi_A, zgi_S, zgi_B, zgi_C, zgl_L, zgd_D, zisa_A, zisa_S, zisa_L, zisa_B, zisa_R, zln_A, zln_S, zln_L, zln_B, zln_R, zwi_A, zwl_L, zwd_D, zclr_i, zclr_r, zclr_l, zclr_d, zclr_n, zok_i, zok_l, zok_b0, zok_b1, I_add, I_sub, I_mul, I_neg, J_add, J_sub, J_mul, J_toI, I_ofNat, I_cl, I_J, I_ne2, zup_same, zup_up, zup_ne, zc1_eqB, zc1_neB, zret_b, zret_b0, zret_b1, List.getD_cons_zero, List.getD_cons_succ, List.length_cons, List.length_nil, List.set_cons_zero, List.set_cons_succ, Option.toList, List.cons_append, List.nil_append, Int.cast_ofNat_Int, decide_eq_true_eq, Bool.and_eq_true, and_self, true_and, and_true, if_true, if_false, not_true_eq_false, not_false_eq_true, ↓reduceIte, Nat.reduceAdd, Nat.reduceLT, Nat.reduceLeDiff, Nat.reduceEqDiff, Int.reduceAdd, Int.reduceSub, Int.reduceMul, Int.reduceNeg, Int.reduceLT, Int.reduceLE, Int.reduceEq, Int.reduceToNat, Int.toNat_natCast, Nat.lt_add_one, Nat.zero_lt_succ, q1_eq_t, q1_eq_f, q2_eq_t, q2_eq_f, ql_eq_t, ql_eq_f, q1_ne_t, q1_ne_f, q2_ne_t, q2_ne_f, ql_ne_t, ql_ne_f, q1_lt_t, q1_lt_f, q2_lt_t, q2_lt_f, ql_lt_t, ql_lt_f, q1_ge_t, q1_ge_f, q2_ge_t, q2_ge_f, ql_ge_t, ql_ge_f, q1_gt_t, q1_gt_f, q2_gt_t, q2_gt_f, ql_gt_t, ql_gt_f, q1_le_t, q1_le_f, q2_le_t, q2_le_f, ql_le_t, ql_le_f, zib_t, qb_t, qb_f, nk_add, nk_mul, nk_sub, nk_d1, nk_d0, nk_toNat, nk_r1, nk_l1, nk_m1, nk_n1, nk_s1, nk_t1, nk_r2, nk_l2, nk_m2, nk_n2, nk_s2, nk_t2, nk_r3, nk_l3, nk_m3, nk_n3, nk_s3, nk_t3, nk_r4, nk_l4, nk_m4, nk_n4, nk_s4, nk_t4, nk_r6, nk_l6, nk_m6, nk_n6, nk_s6, nk_t6, nk_r7, nk_l7, nk_m7, nk_n7, nk_s7, nk_t7, nk_r8, nk_l8, nk_m8, nk_n8, nk_s8, nk_t8, nk_r12, nk_l12, nk_m12, nk_n12, nk_s12, nk_t12, nk_r31, nk_l31, nk_m31, nk_n31, nk_s31, nk_t31, nk_r32, nk_l32, nk_m32, nk_n32, nk_s32, nk_t32, nk_r59, nk_l59, nk_m59, nk_n59, nk_s59, nk_t59, nk_r60, nk_l60, nk_m60, nk_n60, nk_s60, nk_t60, nk_r96, nk_l96, nk_m96, nk_n96, nk_s96, nk_t96, nk_r97, nk_l97, nk_m97, nk_n97, nk_s97, nk_t97, nk_r120, nk_l120, nk_m120, nk_n120, nk_s120, nk_t120, nk_r240, nk_l240, nk_m240, nk_n240, nk_s240, nk_t240, nk_r255, nk_l255, nk_m255, nk_n255, nk_s255, nk_t255, nk_r256, nk_l256, nk_m256, nk_n256, nk_s256, nk_t256, Nat.add_zero, Nat.zero_add, Nat.mul_one, Nat.one_mul, Nat.mul_zero, Nat.zero_mul, Nat.sub_zero, Nat.reduceSub, Nat.reduceMul, Nat.add_sub_cancel, Bool.false_eq_true, Int.add_zero, Int.zero_add, Int.sub_zero, zfty_4_3, s0, s2, k0, e1, p0, e2]
theorem np_leaf {x c : Nat} (hd : 5 ≤ d) (hx : x < 60)
  (hP : ∀ (f : zF) (m : zM) (n o : Nat) (SG IT : Nat → Int), pat f 210 N K L Z → scr f n o SG IT → n < 180 → ∃ (f' : zF), zrun zTb d 36 [.ref 214, .ref 210, .int (I x)] f m = some (.inl none, f', m) ∧ scr f' (n + 1) o (zst SG n (c : Int)) IT ∧ fre 214 216 f f') : NP d N K L Z [c] 1 [(x : Int)] := by
  refine ⟨Nat.le_refl _, ?_⟩
  intro f m n o s SG IT v hp hs hk hn hS hO
  rw [List.length_singleton] at hs hn
  obtain ⟨p1, p2⟩ := scr_pop hs
  have k0 := stk_one.mp hk
  have hp1 := fre_pat p2 hp (by omega)
  obtain ⟨f1, e1, a1, a2⟩ := hP _ m n o SG IT hp1 p1 (by omega)
  refine ⟨f1, _, _, .int (I (x : Int)), ?_, fre_pat a2 hp1 (by omega), a1, fre_trans p2 a2, arr_one zst_same, fun i hi => zst_ne (by omega), fun i hi => rfl⟩
  rw [ze_X4_write_17]
  obtain ⟨s0, s1, s2⟩ := hs
  have p0 := p1.1
  simp (disch := omega) only [ze_X4_write_0, ze_X4_write_5, ze_X4_write_10, ze_X4_write_15, ze_X4_write_24, ze_X4_write_28, ze_X4_write_31, ze_X4_write_36, ze_X4_write_41, ze_X4_write_45, ze_X4_write_49, ze_X4_write_50, ze_X4_write_55, ze_X4_write_61, ze_X4_write_64, ze_X4_write_70, ze_X4_write_76, zcal_x, zfh_nil, zfh_cons, zset_0, zset_1, zset_s, zcal_v, zcal_n, zcalI_n, zco_O, zcf_O, zcs_O, zisc_O, zr8_A, zr8_S, zri_A, zri_B, zri_C, zrl_L, zrd_D, zrs_R, zgi_A, zgi_S, zgi_B, zgi_C, zgl_L, zgd_D, zisa_A, zisa_S, zisa_L, zisa_B, zisa_R, zln_A, zln_S, zln_L, zln_B, zln_R, zwi_A, zwl_L, zwd_D, zclr_i, zclr_r, zclr_l, zclr_d, zclr_n, zok_i, zok_l, zok_b0, zok_b1, I_add, I_sub, I_mul, I_neg, J_add, J_sub, J_mul, J_toI, I_ofNat, I_cl, I_J, I_ne2, zup_same, zup_up, zup_ne, zc1_eqB, zc1_neB, zret_b, zret_b0, zret_b1, List.getD_cons_zero, List.getD_cons_succ, List.length_cons, List.length_nil, List.set_cons_zero, List.set_cons_succ, Option.toList, List.cons_append, List.nil_append, Int.cast_ofNat_Int, decide_eq_true_eq, Bool.and_eq_true, and_self, true_and, and_true, if_true, if_false, not_true_eq_false, not_false_eq_true, ↓reduceIte, Nat.reduceAdd, Nat.reduceLT, Nat.reduceLeDiff, Nat.reduceEqDiff, Int.reduceAdd, Int.reduceSub, Int.reduceMul, Int.reduceNeg, Int.reduceLT, Int.reduceLE, Int.reduceEq, Int.reduceToNat, Int.toNat_natCast, Nat.lt_add_one, Nat.zero_lt_succ, q1_eq_t, q1_eq_f, q2_eq_t, q2_eq_f, ql_eq_t, ql_eq_f, q1_ne_t, q1_ne_f, q2_ne_t, q2_ne_f, ql_ne_t, ql_ne_f, q1_lt_t, q1_lt_f, q2_lt_t, q2_lt_f, ql_lt_t, ql_lt_f, q1_ge_t, q1_ge_f, q2_ge_t, q2_ge_f, ql_ge_t, ql_ge_f, q1_gt_t, q1_gt_f, q2_gt_t, q2_gt_f, ql_gt_t, ql_gt_f, q1_le_t, q1_le_f, q2_le_t, q2_le_f, ql_le_t, ql_le_f, zib_t, qb_t, qb_f, nk_add, nk_mul, nk_sub, nk_d1, nk_d0, nk_toNat, nk_r1, nk_l1, nk_m1, nk_n1, nk_s1, nk_t1, nk_r2, nk_l2, nk_m2, nk_n2, nk_s2, nk_t2, nk_r3, nk_l3, nk_m3, nk_n3, nk_s3, nk_t3, nk_r4, nk_l4, nk_m4, nk_n4, nk_s4, nk_t4, nk_r6, nk_l6, nk_m6, nk_n6, nk_s6, nk_t6, nk_r7, nk_l7, nk_m7, nk_n7, nk_s7, nk_t7, nk_r8, nk_l8, nk_m8, nk_n8, nk_s8, nk_t8, nk_r12, nk_l12, nk_m12, nk_n12, nk_s12, nk_t12, nk_r31, nk_l31, nk_m31, nk_n31, nk_s31, nk_t31, nk_r32, nk_l32, nk_m32, nk_n32, nk_s32, nk_t32, nk_r59, nk_l59, nk_m59, nk_n59, nk_s59, nk_t59, nk_r60, nk_l60, nk_m60, nk_n60, nk_s60, nk_t60, nk_r96, nk_l96, nk_m96, nk_n96, nk_s96, nk_t96, nk_r97, nk_l97, nk_m97, nk_n97, nk_s97, nk_t97, nk_r120, nk_l120, nk_m120, nk_n120, nk_s120, nk_t120, nk_r240, nk_l240, nk_m240, nk_n240, nk_s240, nk_t240, nk_r255, nk_l255, nk_m255, nk_n255, nk_s255, nk_t255, nk_r256, nk_l256, nk_m256, nk_n256, nk_s256, nk_t256, Nat.add_zero, Nat.zero_add, Nat.mul_one, Nat.one_mul, Nat.mul_zero, Nat.zero_mul, Nat.sub_zero, Nat.reduceSub, Nat.reduceMul, Nat.add_sub_cancel, Bool.false_eq_true, Int.add_zero, Int.zero_add, Int.sub_zero, zfty_4_3, s0, s2, k0, e1, p0, Int.neg_neg]
theorem np_itm {x c : Nat} {l : List Nat} (hd : 1 ≤ d) (h : NP d N K L Z l c [(x : Int)]) : NP d N K L Z (brk b l) (c + cb b) (itm b x) := by
  cases b with
  | false => exact h
  | true =>
    have := np_app (np_sign (N := N) (K := K) (L := L) (Z := Z) hd (show 1 ≤ 41 by omega) (by omega)) (np_app h (np_sign hd (show 1 ≤ 40 by omega) (by omega)))
    have hc : 1 + (c + 1) = c + cb true := by unfold cb; rw [if_pos rfl]; omega
    rw [hc] at this
    exact this
end
