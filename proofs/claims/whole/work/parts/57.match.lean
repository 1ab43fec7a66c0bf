/-! SPECS: the reference matches a pattern with a word -/
def nc (a : Nat × Nat × Nat) : Nat := if a.1 = 2 then 8 * (a.2.1 - 96) + 2 else a.1
def repc (N : Nat → Nat) (o : Nat) (ns : List (Nat × Nat × Nat)) : Prop := ∀ i, i < ns.length → N (o + i) = nc (ns.getD i (0, 0, 0))
theorem repc_cons {N : Nat → Nat} {o : Nat} {a : Nat × Nat × Nat} {ns : List (Nat × Nat × Nat)} : repc N o (a :: ns) ↔ N o = nc a ∧ repc N (o + 1) ns := by
  constructor
  · intro h
    refine ⟨h 0 (Nat.zero_lt_succ _), fun i hi => ?_⟩
    have := h (i + 1) (Nat.succ_lt_succ hi)
    rw [show o + (i + 1) = o + 1 + i by omega] at this
    exact this
  · rintro ⟨h0, h⟩ i hi
    cases i with
    | zero => exact h0
    | succ i =>
      have := h i (Nat.lt_of_succ_lt_succ hi)
      rw [show o + (i + 1) = o + 1 + i by omega]
      exact this
theorem repc_app {N : Nat → Nat} {ys : List (Nat × Nat × Nat)} : ∀ (xs : List (Nat × Nat × Nat)) (o : Nat), repc N o (xs ++ ys) ↔ repc N o xs ∧ repc N (o + xs.length) ys
  | [], o => ⟨fun h => ⟨fun i hi => (by cases hi), h⟩, fun h => h.2⟩
  | a :: xs, o => by
    rw [List.cons_append, repc_cons, repc_cons, repc_app xs (o + 1), List.length_cons, show o + (xs.length + 1) = o + 1 + xs.length by omega]
    exact and_assoc.symm
/-- the parts of a word that a tree matches, as bits -/
def vb (l : List Nat) (V : Nat) (t : zE) : Prop := V < 562949953421312 ∧ ∀ i, V.testBit i = true ↔ ∃ a b, a ≤ b ∧ b ≤ l.length ∧ i = 7 * a + b ∧ mt t (wsl l a b)
theorem emp_bit : ∀ k i, (emp k).testBit i = true ↔ ∃ a, a < k ∧ i = 8 * a
  | 0, i => by
    unfold emp
    rw [Nat.zero_testBit]
    exact ⟨fun h => (by cases h), fun ⟨a, h, _⟩ => by cases h⟩
  | k + 1, i => by
    unfold emp
    rw [Nat.testBit_or, Bool.or_eq_true, emp_bit k i, Nat.testBit_two_pow, decide_eq_true_eq]
    constructor
    · rintro (⟨a, h1, h2⟩ | h)
      · exact ⟨a, by omega, h2⟩
      · exact ⟨k, by omega, h.symm⟩
    · rintro ⟨a, h1, h2⟩
      by_cases h : a = k
      · subst h; exact Or.inr h2.symm
      · exact Or.inl ⟨a, by omega, h2⟩
theorem emp_lt : ∀ k, k ≤ 7 → emp k < 562949953421312
  | 0, _ => by decide
  | k + 1, h => Nat.or_lt_two_pow (n := 49) (emp_lt k (by omega)) (bit49 (k := 8 * k) (by omega)).2
section
variable {d r em : Nat} {f : zF} {m : zM} {thr ex pc kp fd pl stt te : Int} {N : Nat → Nat} {l : List Nat}
theorem s_partl {a b : Nat} (hd : 2 ≤ d) (hl : wgood l) (hl6 : l.length ≤ 6) (hab : a ≤ b) (hb : b ≤ l.length) : zrun zTb d 120 [.int (I (w4 l : Nat)), .int (I a), .int (I b)] f m = some (.inl (some (.int (I (w4 (wsl l a b) : Nat)))), f, m) := by
  have := s_X10_part (d := d) (f := f) (m := m) (w := w4 l) (L := l.length) (a := a) (b := b) hd (by omega) (w4_wsz4 hl) hab hb
  rw [w4_part hl hab hb] at this
  exact this
theorem mt_let {x o hi : Nat} (hd : 3 ≤ d) (hl : wgood l) (hl6 : l.length ≤ 6) (h : f 266 = some (mo thr ex pc kp fd pl stt te)) (hN : f 280 = some (kA 780 (fun k => (N k : Int)))) (hr : r < 13) (ho : o < 60) (hx : 97 ≤ x ∧ x ≤ 99) (hNo : N (60 * r + o) = 8 * (x - 96) + 2) {a16 : Value} : ∀ j k mk : Nat, k + j = l.length → mk < 562949953421312 → ∃ (mk' : Nat) (a15 : Value), zex zTb d zqX10_match 128 [.ref 266, .int (I r), .int (I (w4 l : Nat)), .int (I (l.length : Nat)), .long (J em), .null, .int (I hi), .int (I o), .int (I 2), .long (J 0), .null, .long (J 0), .null, .long (J mk), .null, .int (I k), a16] [] f m = zex zTb d zqX10_match 182 [.ref 266, .int (I r), .int (I (w4 l : Nat)), .int (I (l.length : Nat)), .long (J em), .null, .int (I hi), .int (I o), .int (I 2), .long (J 0), .null, .long (J 0), .null, .long (J mk'), .null, a15, a16] [] f m ∧ mk' < 562949953421312 ∧ ∀ i, mk'.testBit i = true ↔ (mk.testBit i = true ∨ ∃ y, k ≤ y ∧ y < l.length ∧ i = 7 * y + (y + 1) ∧ mt (.var x) (wsl l y (y + 1))) := by
  have h' := h
  unfold mo at h'
  intro j
  induction j with
  | zero =>
    intro k mk hk hm
    obtain rfl : k = l.length := by omega
    refine ⟨mk, .int (I (l.length : Nat)), ?_, hm, fun i => ⟨Or.inl, ?_⟩⟩
    · rw [ze_X10_match_128]
      simp (disch := omega) only [q2_ge_t, q2_ge_f, reduceIte]
    · rintro (h | ⟨y, h1, h2, -⟩)
      · exact h
      · omega
  | succ j ih =>
    intro k mk hk hm
    have hkl : k < l.length := by omega
    have e1 := s_partl (d := d) (f := f) (m := m) (a := k) (b := k + 1) (by omega) hl hl6 (by omega) (by omega)
    rw [wsl_succ hkl] at e1
    have hw1 : w4 [l[k]] = l[k] - 96 := by show 4 * 0 + l[k] - 96 = _; omega
    rw [hw1] at e1
    have hlk := hl _ (List.getElem_mem hkl)
    have e2 := s_X10_bitN (d := d) (f := f) (m := m) (a := k) (b := k + 1) (by omega) (by omega) (by omega)
    have b8 : (8 * (x - 96) + 2) / 8 = x - 96 := by omega
    have hmt : mt (.var x) (wsl l k (k + 1)) ↔ l[k] = x := by
      rw [wsl_succ hkl]
      exact ⟨fun z => by cases z; rfl, fun z => by rw [z]; rfl⟩
    have hst : ∀ i, (∃ y, k ≤ y ∧ y < l.length ∧ i = 7 * y + (y + 1) ∧ mt (.var x) (wsl l y (y + 1))) ↔ ((i = 7 * k + (k + 1) ∧ l[k] = x) ∨ ∃ y, k + 1 ≤ y ∧ y < l.length ∧ i = 7 * y + (y + 1) ∧ mt (.var x) (wsl l y (y + 1))) := by
      intro i
      constructor
      · rintro ⟨y, h1, h2, h3, h4⟩
        by_cases hy : y = k
        · subst hy; exact Or.inl ⟨h3, hmt.mp h4⟩
        · exact Or.inr ⟨y, by omega, h2, h3, h4⟩
      · rintro (⟨h1, h2⟩ | ⟨y, h1, h2⟩)
        · exact ⟨k, Nat.le_refl _, hkl, h1, hmt.mpr h2⟩
        · exact ⟨y, by omega, h2⟩
    rw [ze_X10_match_128]
    by_cases hc : l[k] = x
    · obtain ⟨mk', a15, i1, i2, i3⟩ := ih (k + 1) (mk ||| 2 ^ (7 * k + (k + 1))) (by omega) (Nat.or_lt_two_pow (n := 49) hm (bit49 (by omega)).2)
      refine ⟨mk', a15, ?_, i2, fun i => ?_⟩
      · refine Eq.trans ?_ i1
        simp (disch := omega) only [ze_X10_match_0, ze_X10_match_4, ze_X10_match_9, ze_X10_match_18, ze_X10_match_20, ze_X10_match_29, ze_X10_match_36, ze_X10_match_44, ze_X10_match_48, ze_X10_match_53, ze_X10_match_56, ze_X10_match_65, ze_X10_match_69, ze_X10_match_74, ze_X10_match_77, ze_X10_match_88, ze_X10_match_92, ze_X10_match_98, ze_X10_match_102, ze_X10_match_115, ze_X10_match_119, ze_X10_match_125, ze_X10_match_134, ze_X10_match_144, ze_X10_match_148, ze_X10_match_156, ze_X10_match_159, ze_X10_match_162, ze_X10_match_173, ze_X10_match_176, ze_X10_match_182, ze_X10_match_188, ze_X10_match_195, ze_X10_match_201, ze_X10_match_210, ze_X10_match_212, ze_X10_match_219, ze_X10_match_226, ze_X10_match_232, ze_X10_match_247, ze_X10_match_258, ze_X10_match_273, ze_X10_match_279, ze_X10_match_283, ze_X10_match_288, ze_X10_match_297, ze_X10_match_301, ze_X10_match_303, ze_X10_match_308, ze_X10_match_314, ze_X10_match_318, zcal_x, zfh_nil, zfh_cons, zset_0, zset_1, zset_s, zcal_v, zcal_n, zcalI_n, zco_O, zcf_O, zcs_O, zisc_O, zr8_A, zr8_S, zri_A, zri_B, zri_C, zrl_L, zrd_D, zrs_R, zgi_A, zgi_S, zgi_B, zgi_C, zgl_L, zgd_D, zisa_A, zisa_S, zisa_L, zisa_B, zisa_R, zln_A, zln_S, zln_L, zln_B, zln_R, zwi_A, zwl_L, zwd_D, zclr_i, zclr_r, zclr_l, zclr_d, zclr_n, zok_i, zok_l, zok_b0, zok_b1, I_add, I_sub, I_mul, I_neg, J_add, J_sub, J_mul, J_toI, I_ofNat, I_cl, I_J, I_ne2, zup_same, zup_up, zup_ne, zc1_eqB, zc1_neB, zret_b, zret_b0, zret_b1, List.getD_cons_zero, List.getD_cons_succ, List.length_cons, List.length_nil, List.set_cons_zero, List.set_cons_succ, Option.toList, List.cons_append, List.nil_append, Int.cast_ofNat_Int, decide_eq_true_eq, Bool.and_eq_true, and_self, true_and, and_true, if_true, if_false, not_true_eq_false, not_false_eq_true, reduceIte, Nat.reduceAdd, Nat.reduceLT, Nat.reduceLeDiff, Nat.reduceEqDiff, Int.reduceAdd, Int.reduceSub, Int.reduceMul, Int.reduceNeg, Int.reduceLT, Int.reduceLE, Int.reduceEq, Int.reduceToNat, Int.toNat_natCast, Nat.lt_add_one, Nat.zero_lt_succ, q1_eq_t, q1_eq_f, q2_eq_t, q2_eq_f, ql_eq_t, ql_eq_f, q1_ne_t, q1_ne_f, q2_ne_t, q2_ne_f, ql_ne_t, ql_ne_f, q1_lt_t, q1_lt_f, q2_lt_t, q2_lt_f, ql_lt_t, ql_lt_f, q1_ge_t, q1_ge_f, q2_ge_t, q2_ge_f, ql_ge_t, ql_ge_f, q1_gt_t, q1_gt_f, q2_gt_t, q2_gt_f, ql_gt_t, ql_gt_f, q1_le_t, q1_le_f, q2_le_t, q2_le_f, ql_le_t, ql_le_f, zib_t, qb_t, qb_f, nk_add, nk_mul, nk_sub, nk_d1, nk_d0, nk_toNat, nk_r1, nk_l1, nk_m1, nk_n1, nk_s1, nk_t1, nk_r2, nk_l2, nk_m2, nk_n2, nk_s2, nk_t2, nk_r3, nk_l3, nk_m3, nk_n3, nk_s3, nk_t3, nk_r4, nk_l4, nk_m4, nk_n4, nk_s4, nk_t4, nk_r6, nk_l6, nk_m6, nk_n6, nk_s6, nk_t6, nk_r7, nk_l7, nk_m7, nk_n7, nk_s7, nk_t7, nk_r8, nk_l8, nk_m8, nk_n8, nk_s8, nk_t8, nk_r12, nk_l12, nk_m12, nk_n12, nk_s12, nk_t12, nk_r31, nk_l31, nk_m31, nk_n31, nk_s31, nk_t31, nk_r32, nk_l32, nk_m32, nk_n32, nk_s32, nk_t32, nk_r59, nk_l59, nk_m59, nk_n59, nk_s59, nk_t59, nk_r60, nk_l60, nk_m60, nk_n60, nk_s60, nk_t60, nk_r96, nk_l96, nk_m96, nk_n96, nk_s96, nk_t96, nk_r97, nk_l97, nk_m97, nk_n97, nk_s97, nk_t97, nk_r120, nk_l120, nk_m120, nk_n120, nk_s120, nk_t120, nk_r240, nk_l240, nk_m240, nk_n240, nk_s240, nk_t240, nk_r255, nk_l255, nk_m255, nk_n255, nk_s255, nk_t255, nk_r256, nk_l256, nk_m256, nk_n256, nk_s256, nk_t256, Nat.add_zero, Nat.zero_add, Nat.mul_one, Nat.one_mul, Nat.mul_zero, Nat.zero_mul, Nat.sub_zero, Nat.reduceSub, Nat.reduceMul, Nat.add_sub_cancel, Bool.false_eq_true, Int.add_zero, Int.zero_add, Int.sub_zero, h', hN, e1, e2, hNo, I_div8, I_ne8, b8, J_or]
      · rw [i3, hst, Nat.testBit_or, Bool.or_eq_true, Nat.testBit_two_pow, decide_eq_true_eq]
        constructor
        · rintro ((h1 | h1) | h1)
          · exact Or.inl h1
          · exact Or.inr (Or.inl ⟨h1.symm, hc⟩)
          · exact Or.inr (Or.inr h1)
        · rintro (h1 | h1 | h1)
          · exact Or.inl (Or.inl h1)
          · exact Or.inl (Or.inr h1.1.symm)
          · exact Or.inr h1
    · obtain ⟨mk', a15, i1, i2, i3⟩ := ih (k + 1) mk (by omega) hm
      refine ⟨mk', a15, ?_, i2, fun i => ?_⟩
      · refine Eq.trans ?_ i1
        simp (disch := omega) only [ze_X10_match_0, ze_X10_match_4, ze_X10_match_9, ze_X10_match_18, ze_X10_match_20, ze_X10_match_29, ze_X10_match_36, ze_X10_match_44, ze_X10_match_48, ze_X10_match_53, ze_X10_match_56, ze_X10_match_65, ze_X10_match_69, ze_X10_match_74, ze_X10_match_77, ze_X10_match_88, ze_X10_match_92, ze_X10_match_98, ze_X10_match_102, ze_X10_match_115, ze_X10_match_119, ze_X10_match_125, ze_X10_match_134, ze_X10_match_144, ze_X10_match_148, ze_X10_match_156, ze_X10_match_159, ze_X10_match_162, ze_X10_match_173, ze_X10_match_176, ze_X10_match_182, ze_X10_match_188, ze_X10_match_195, ze_X10_match_201, ze_X10_match_210, ze_X10_match_212, ze_X10_match_219, ze_X10_match_226, ze_X10_match_232, ze_X10_match_247, ze_X10_match_258, ze_X10_match_273, ze_X10_match_279, ze_X10_match_283, ze_X10_match_288, ze_X10_match_297, ze_X10_match_301, ze_X10_match_303, ze_X10_match_308, ze_X10_match_314, ze_X10_match_318, zcal_x, zfh_nil, zfh_cons, zset_0, zset_1, zset_s, zcal_v, zcal_n, zcalI_n, zco_O, zcf_O, zcs_O, zisc_O, zr8_A, zr8_S, zri_A, zri_B, zri_C, zrl_L, zrd_D, zrs_R, zgi_A, zgi_S, zgi_B, zgi_C, zgl_L, zgd_D, zisa_A, zisa_S, zisa_L, zisa_B, zisa_R, zln_A, zln_S, zln_L, zln_B, zln_R, zwi_A, zwl_L, zwd_D, zclr_i, zclr_r, zclr_l, zclr_d, zclr_n, zok_i, zok_l, zok_b0, zok_b1, I_add, I_sub, I_mul, I_neg, J_add, J_sub, J_mul, J_toI, I_ofNat, I_cl, I_J, I_ne2, zup_same, zup_up, zup_ne, zc1_eqB, zc1_neB, zret_b, zret_b0, zret_b1, List.getD_cons_zero, List.getD_cons_succ, List.length_cons, List.length_nil, List.set_cons_zero, List.set_cons_succ, Option.toList, List.cons_append, List.nil_append, Int.cast_ofNat_Int, decide_eq_true_eq, Bool.and_eq_true, and_self, true_and, and_true, if_true, if_false, not_true_eq_false, not_false_eq_true, reduceIte, Nat.reduceAdd, Nat.reduceLT, Nat.reduceLeDiff, Nat.reduceEqDiff, Int.reduceAdd, Int.reduceSub, Int.reduceMul, Int.reduceNeg, Int.reduceLT, Int.reduceLE, Int.reduceEq, Int.reduceToNat, Int.toNat_natCast, Nat.lt_add_one, Nat.zero_lt_succ, q1_eq_t, q1_eq_f, q2_eq_t, q2_eq_f, ql_eq_t, ql_eq_f, q1_ne_t, q1_ne_f, q2_ne_t, q2_ne_f, ql_ne_t, ql_ne_f, q1_lt_t, q1_lt_f, q2_lt_t, q2_lt_f, ql_lt_t, ql_lt_f, q1_ge_t, q1_ge_f, q2_ge_t, q2_ge_f, ql_ge_t, ql_ge_f, q1_gt_t, q1_gt_f, q2_gt_t, q2_gt_f, ql_gt_t, ql_gt_f, q1_le_t, q1_le_f, q2_le_t, q2_le_f, ql_le_t, ql_le_f, zib_t, qb_t, qb_f, nk_add, nk_mul, nk_sub, nk_d1, nk_d0, nk_toNat, nk_r1, nk_l1, nk_m1, nk_n1, nk_s1, nk_t1, nk_r2, nk_l2, nk_m2, nk_n2, nk_s2, nk_t2, nk_r3, nk_l3, nk_m3, nk_n3, nk_s3, nk_t3, nk_r4, nk_l4, nk_m4, nk_n4, nk_s4, nk_t4, nk_r6, nk_l6, nk_m6, nk_n6, nk_s6, nk_t6, nk_r7, nk_l7, nk_m7, nk_n7, nk_s7, nk_t7, nk_r8, nk_l8, nk_m8, nk_n8, nk_s8, nk_t8, nk_r12, nk_l12, nk_m12, nk_n12, nk_s12, nk_t12, nk_r31, nk_l31, nk_m31, nk_n31, nk_s31, nk_t31, nk_r32, nk_l32, nk_m32, nk_n32, nk_s32, nk_t32, nk_r59, nk_l59, nk_m59, nk_n59, nk_s59, nk_t59, nk_r60, nk_l60, nk_m60, nk_n60, nk_s60, nk_t60, nk_r96, nk_l96, nk_m96, nk_n96, nk_s96, nk_t96, nk_r97, nk_l97, nk_m97, nk_n97, nk_s97, nk_t97, nk_r120, nk_l120, nk_m120, nk_n120, nk_s120, nk_t120, nk_r240, nk_l240, nk_m240, nk_n240, nk_s240, nk_t240, nk_r255, nk_l255, nk_m255, nk_n255, nk_s255, nk_t255, nk_r256, nk_l256, nk_m256, nk_n256, nk_s256, nk_t256, Nat.add_zero, Nat.zero_add, Nat.mul_one, Nat.one_mul, Nat.mul_zero, Nat.zero_mul, Nat.sub_zero, Nat.reduceSub, Nat.reduceMul, Nat.add_sub_cancel, Bool.false_eq_true, Int.add_zero, Int.zero_add, Int.sub_zero, h', hN, e1, e2, hNo, I_div8, I_ne8, b8, J_or]
      · rw [i3, hst]
        constructor
        · rintro (h1 | h1)
          · exact Or.inl h1
          · exact Or.inr (Or.inr h1)
        · rintro (h1 | h1 | h1)
          · exact Or.inl h1
          · exact absurd h1.2 hc
          · exact Or.inr h1
theorem mt_rep {p : zE} {z : Int} {P o hi : Nat} (hd : 3 ≤ d) (hl6 : l.length ≤ 6) (hP : vb l P p) {a11 : Value} : ∀ n mk nx : Nat, 562949953421312 - mk ≤ n → mk < 562949953421312 → nx < 562949953421312 → (∀ a, a ≤ l.length → mk.testBit (8 * a) = true) → (∀ i, mk.testBit i = true → ∃ a b, a ≤ b ∧ b ≤ l.length ∧ i = 7 * a + b ∧ mt (.mulL z p) (wsl l a b)) → mk ≤ nx → (∀ i, nx.testBit i = true ↔ (mk.testBit i = true ∨ ∃ a b, a ≤ b ∧ b ≤ l.length ∧ i = 7 * a + b ∧ ∃ c, a + 1 ≤ c ∧ c ≤ b ∧ P.testBit (7 * a + c) = true ∧ mk.testBit (7 * c + b) = true)) → ∀ a12 a14 a16, ∃ (V : Nat) (b12 b14 b15 b16 : Value), zex zTb d zqX10_match 250 [.ref 266, .int (I r), .int (I (w4 l : Nat)), .int (I (l.length : Nat)), .long (J em), .null, .int (I hi), .int (I o), .int (I 4), .long (J P), .null, a11, a12, .long (J mk), a14, .long (J nx), a16] [] f m = zex zTb d zqX10_match 279 [.ref 266, .int (I r), .int (I (w4 l : Nat)), .int (I (l.length : Nat)), .long (J em), .null, .int (I hi), .int (I o), .int (I 4), .long (J P), .null, a11, b12, .long (J V), b14, b15, b16] [] f m ∧ vb l V (.mulL z p) := by
  intro n
  induction n with
  | zero => intro mk nx h1 h2; omega
  | succ n ih =>
    intro mk nx hn hm hx hem hsub hle hnx a12 a14 a16
    by_cases he : nx = mk
    · subst he
      refine ⟨nx, a12, a14, .long (J nx), a16, ?_, hm, fun i => ⟨hsub i, ?_⟩⟩
      · rw [ze_X10_match_250]
        simp (disch := omega) only [ql_eq_t, ql_eq_f, reduceIte]
      · rintro ⟨a, b, h1, h2, rfl, h3⟩
        have key : ∀ k a, b - a ≤ k → a ≤ b → mt (.mulL z p) (wsl l a b) → nx.testBit (7 * a + b) = true := by
          intro k
          induction k with
          | zero =>
            intro a h4 h5 _
            obtain rfl : a = b := by omega
            have := hem a h2
            rw [show 7 * a + a = 8 * a by omega]; exact this
          | succ k ihk =>
            intro a h4 h5 h6
            rcases (mt_star h5 h2).mp h6 with h7 | ⟨c, h7, h8, h9, h10⟩
            · subst h7
              have := hem a h2
              rw [show 7 * a + a = 8 * a by omega]; exact this
            · have h11 := ihk c (by omega) h8 h10
              exact (hnx _).mpr (Or.inr ⟨a, b, h5, h2, rfl, c, by omega, h8, (hP.2 _).mpr ⟨a, c, by omega, by omega, rfl, h9⟩, h11⟩)
        exact key _ a (Nat.le_refl _) h1 h3
    · obtain ⟨c, e1, e2, e3⟩ := s_X10_chainParts (d := d) (f := f) (m := m) (p := P) (q := nx) (L := l.length) (w := 1) (by omega) hP.1 hx hl6 (by omega)
      have hor : nx ||| c < 562949953421312 := Nat.or_lt_two_pow (n := 49) hx e2
      obtain ⟨V, b12, b14, b15, b16, i1, i2⟩ := ih nx (nx ||| c) (by omega) hx hor (fun a ha => (hnx _).mpr (Or.inl (hem a ha))) (by
        intro i hi
        rcases (hnx i).mp hi with h1 | ⟨a, b, h1, h2, h3, c, h4, h5, h6, h7⟩
        · exact hsub i h1
        · refine ⟨a, b, h1, h2, h3, (mt_star h1 h2).mpr (Or.inr ⟨c, by omega, h5, ?_, ?_⟩)⟩
          · obtain ⟨a', b', g1, g2, g3, g4⟩ := (hP.2 _).mp h6
            obtain ⟨rfl, rfl⟩ : a = a' ∧ c = b' := by omega
            exact g4
          · obtain ⟨a', b', g1, g2, g3, g4⟩ := hsub _ h7
            obtain ⟨rfl, rfl⟩ : c = a' ∧ b = b' := by omega
            exact g4) Nat.left_le_or (by
        intro i
        rw [Nat.testBit_or, Bool.or_eq_true, e3]) (zclr a12) .null .null
      refine ⟨V, b12, b14, b15, b16, ?_, i2⟩
      rw [ze_X10_match_250]
      rw [show ((1 : Nat) : Int) = 1 from rfl] at e1
      refine Eq.trans ?_ i1
      simp (disch := omega) only [ze_X10_match_0, ze_X10_match_4, ze_X10_match_9, ze_X10_match_18, ze_X10_match_20, ze_X10_match_29, ze_X10_match_36, ze_X10_match_44, ze_X10_match_48, ze_X10_match_53, ze_X10_match_56, ze_X10_match_65, ze_X10_match_69, ze_X10_match_74, ze_X10_match_77, ze_X10_match_88, ze_X10_match_92, ze_X10_match_98, ze_X10_match_102, ze_X10_match_115, ze_X10_match_119, ze_X10_match_125, ze_X10_match_134, ze_X10_match_144, ze_X10_match_148, ze_X10_match_156, ze_X10_match_159, ze_X10_match_162, ze_X10_match_173, ze_X10_match_176, ze_X10_match_182, ze_X10_match_188, ze_X10_match_195, ze_X10_match_201, ze_X10_match_210, ze_X10_match_212, ze_X10_match_219, ze_X10_match_226, ze_X10_match_232, ze_X10_match_247, ze_X10_match_258, ze_X10_match_273, ze_X10_match_279, ze_X10_match_283, ze_X10_match_288, ze_X10_match_297, ze_X10_match_301, ze_X10_match_303, ze_X10_match_308, ze_X10_match_314, ze_X10_match_318, zcal_x, zfh_nil, zfh_cons, zset_0, zset_1, zset_s, zcal_v, zcal_n, zcalI_n, zco_O, zcf_O, zcs_O, zisc_O, zr8_A, zr8_S, zri_A, zri_B, zri_C, zrl_L, zrd_D, zrs_R, zgi_A, zgi_S, zgi_B, zgi_C, zgl_L, zgd_D, zisa_A, zisa_S, zisa_L, zisa_B, zisa_R, zln_A, zln_S, zln_L, zln_B, zln_R, zwi_A, zwl_L, zwd_D, zclr_i, zclr_r, zclr_l, zclr_d, zclr_n, zok_i, zok_l, zok_b0, zok_b1, I_add, I_sub, I_mul, I_neg, J_add, J_sub, J_mul, J_toI, I_ofNat, I_cl, I_J, I_ne2, zup_same, zup_up, zup_ne, zc1_eqB, zc1_neB, zret_b, zret_b0, zret_b1, List.getD_cons_zero, List.getD_cons_succ, List.length_cons, List.length_nil, List.set_cons_zero, List.set_cons_succ, Option.toList, List.cons_append, List.nil_append, Int.cast_ofNat_Int, decide_eq_true_eq, Bool.and_eq_true, and_self, true_and, and_true, if_true, if_false, not_true_eq_false, not_false_eq_true, reduceIte, Nat.reduceAdd, Nat.reduceLT, Nat.reduceLeDiff, Nat.reduceEqDiff, Int.reduceAdd, Int.reduceSub, Int.reduceMul, Int.reduceNeg, Int.reduceLT, Int.reduceLE, Int.reduceEq, Int.reduceToNat, Int.toNat_natCast, Nat.lt_add_one, Nat.zero_lt_succ, q1_eq_t, q1_eq_f, q2_eq_t, q2_eq_f, ql_eq_t, ql_eq_f, q1_ne_t, q1_ne_f, q2_ne_t, q2_ne_f, ql_ne_t, ql_ne_f, q1_lt_t, q1_lt_f, q2_lt_t, q2_lt_f, ql_lt_t, ql_lt_f, q1_ge_t, q1_ge_f, q2_ge_t, q2_ge_f, ql_ge_t, ql_ge_f, q1_gt_t, q1_gt_f, q2_gt_t, q2_gt_f, ql_gt_t, ql_gt_f, q1_le_t, q1_le_f, q2_le_t, q2_le_f, ql_le_t, ql_le_f, zib_t, qb_t, qb_f, nk_add, nk_mul, nk_sub, nk_d1, nk_d0, nk_toNat, nk_r1, nk_l1, nk_m1, nk_n1, nk_s1, nk_t1, nk_r2, nk_l2, nk_m2, nk_n2, nk_s2, nk_t2, nk_r3, nk_l3, nk_m3, nk_n3, nk_s3, nk_t3, nk_r4, nk_l4, nk_m4, nk_n4, nk_s4, nk_t4, nk_r6, nk_l6, nk_m6, nk_n6, nk_s6, nk_t6, nk_r7, nk_l7, nk_m7, nk_n7, nk_s7, nk_t7, nk_r8, nk_l8, nk_m8, nk_n8, nk_s8, nk_t8, nk_r12, nk_l12, nk_m12, nk_n12, nk_s12, nk_t12, nk_r31, nk_l31, nk_m31, nk_n31, nk_s31, nk_t31, nk_r32, nk_l32, nk_m32, nk_n32, nk_s32, nk_t32, nk_r59, nk_l59, nk_m59, nk_n59, nk_s59, nk_t59, nk_r60, nk_l60, nk_m60, nk_n60, nk_s60, nk_t60, nk_r96, nk_l96, nk_m96, nk_n96, nk_s96, nk_t96, nk_r97, nk_l97, nk_m97, nk_n97, nk_s97, nk_t97, nk_r120, nk_l120, nk_m120, nk_n120, nk_s120, nk_t120, nk_r240, nk_l240, nk_m240, nk_n240, nk_s240, nk_t240, nk_r255, nk_l255, nk_m255, nk_n255, nk_s255, nk_t255, nk_r256, nk_l256, nk_m256, nk_n256, nk_s256, nk_t256, Nat.add_zero, Nat.zero_add, Nat.mul_one, Nat.one_mul, Nat.mul_zero, Nat.zero_mul, Nat.sub_zero, Nat.reduceSub, Nat.reduceMul, Nat.add_sub_cancel, Bool.false_eq_true, Int.add_zero, Int.zero_add, Int.sub_zero, e1, J_or]
end
