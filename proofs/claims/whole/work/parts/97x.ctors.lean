/-! SPECS: the constructors -/
theorem J_zero : (0 : Int64) = J 0 := by decide
theorem zd_0 : (.inr (0, zdf 0) : zC) = kO 0 [.null, .null, .null, .int (I 0)] := by rw [← I_zero]; rfl
theorem zkr_0_0 {x : Nat} : zok (zfty 0 0) (.ref x) = true := rfl
theorem zkr_0_1 {x : Nat} : zok (zfty 0 1) (.ref x) = true := rfl
theorem zkr_0_2 {x : Nat} : zok (zfty 0 2) (.ref x) = true := rfl
theorem zd_1 : (.inr (1, zdf 1) : zC) = kO 1 [.null, .null, .int (I 0), .null, .null] := by rw [← I_zero]; rfl
theorem zkr_1_0 {x : Nat} : zok (zfty 1 0) (.ref x) = true := rfl
theorem zkr_1_1 {x : Nat} : zok (zfty 1 1) (.ref x) = true := rfl
theorem zkr_1_3 {x : Nat} : zok (zfty 1 3) (.ref x) = true := rfl
theorem zkr_1_4 {x : Nat} : zok (zfty 1 4) (.ref x) = true := rfl
theorem zd_2 : (.inr (2, zdf 2) : zC) = kO 2 [.null, .null, .null, .int (I 0)] := by rw [← I_zero]; rfl
theorem zkr_2_0 {x : Nat} : zok (zfty 2 0) (.ref x) = true := rfl
theorem zkr_2_1 {x : Nat} : zok (zfty 2 1) (.ref x) = true := rfl
theorem zkr_2_2 {x : Nat} : zok (zfty 2 2) (.ref x) = true := rfl
theorem zd_3 : (.inr (3, zdf 3) : zC) = kO 3 [.null, .int (I 0)] := by rw [← I_zero]; rfl
theorem zkr_3_0 {x : Nat} : zok (zfty 3 0) (.ref x) = true := rfl
theorem zd_4 : (.inr (4, zdf 4) : zC) = kO 4 [.null, .int (I 0), .null, .int (I 0)] := by rw [← I_zero]; rfl
theorem zkr_4_0 {x : Nat} : zok (zfty 4 0) (.ref x) = true := rfl
theorem zkr_4_2 {x : Nat} : zok (zfty 4 2) (.ref x) = true := rfl
theorem zd_5 : (.inr (5, zdf 5) : zC) = kO 5 [.null, .null, .null, .long (J 0), .long (J 0)] := by rw [← J_zero]; rfl
theorem zkr_5_0 {x : Nat} : zok (zfty 5 0) (.ref x) = true := rfl
theorem zkr_5_1 {x : Nat} : zok (zfty 5 1) (.ref x) = true := rfl
theorem zkr_5_2 {x : Nat} : zok (zfty 5 2) (.ref x) = true := rfl
theorem zd_6 : (.inr (6, zdf 6) : zC) = kO 6 [.null, .null, .null, .null, .null, .null, .null, .null, .null, .null, .int (I 0)] := by rw [← I_zero]; rfl
theorem zkr_6_0 {x : Nat} : zok (zfty 6 0) (.ref x) = true := rfl
theorem zkr_6_1 {x : Nat} : zok (zfty 6 1) (.ref x) = true := rfl
theorem zkr_6_2 {x : Nat} : zok (zfty 6 2) (.ref x) = true := rfl
theorem zkr_6_3 {x : Nat} : zok (zfty 6 3) (.ref x) = true := rfl
theorem zkr_6_4 {x : Nat} : zok (zfty 6 4) (.ref x) = true := rfl
theorem zkr_6_5 {x : Nat} : zok (zfty 6 5) (.ref x) = true := rfl
theorem zkr_6_6 {x : Nat} : zok (zfty 6 6) (.ref x) = true := rfl
theorem zkr_6_7 {x : Nat} : zok (zfty 6 7) (.ref x) = true := rfl
theorem zkr_6_8 {x : Nat} : zok (zfty 6 8) (.ref x) = true := rfl
theorem zkr_6_9 {x : Nat} : zok (zfty 6 9) (.ref x) = true := rfl
theorem zd_7 : (.inr (7, zdf 7) : zC) = kO 7 [.null, .int (I 0), .null] := by rw [← I_zero]; rfl
theorem zkr_7_0 {x : Nat} : zok (zfty 7 0) (.ref x) = true := rfl
theorem zkr_7_2 {x : Nat} : zok (zfty 7 2) (.ref x) = true := rfl
theorem zd_8 : (.inr (8, zdf 8) : zC) = kO 8 [.null, .null, .null, .null, .int (I 0), .null, .null, .int (I 0), .null, .int (I 0)] := by rw [← I_zero]; rfl
theorem zkr_8_0 {x : Nat} : zok (zfty 8 0) (.ref x) = true := rfl
theorem zkr_8_1 {x : Nat} : zok (zfty 8 1) (.ref x) = true := rfl
theorem zkr_8_2 {x : Nat} : zok (zfty 8 2) (.ref x) = true := rfl
theorem zkr_8_3 {x : Nat} : zok (zfty 8 3) (.ref x) = true := rfl
theorem zkr_8_5 {x : Nat} : zok (zfty 8 5) (.ref x) = true := rfl
theorem zkr_8_6 {x : Nat} : zok (zfty 8 6) (.ref x) = true := rfl
theorem zkr_8_8 {x : Nat} : zok (zfty 8 8) (.ref x) = true := rfl
theorem zd_9 : (.inr (9, zdf 9) : zC) = kO 9 [.int (I 0), .int (I 0), .null, .null, .null, .int (I 0), .null, .null, .null, .null, .null, .int (I 0), .null, .null, .null, .null, .null, .int (I 0), .null, .null, .int (I 0), .int (I 0), .null, .int (I 0), .null] := by rw [← I_zero]; rfl
theorem zkr_9_2 {x : Nat} : zok (zfty 9 2) (.ref x) = true := rfl
theorem zkr_9_3 {x : Nat} : zok (zfty 9 3) (.ref x) = true := rfl
theorem zkr_9_4 {x : Nat} : zok (zfty 9 4) (.ref x) = true := rfl
theorem zkr_9_6 {x : Nat} : zok (zfty 9 6) (.ref x) = true := rfl
theorem zkr_9_7 {x : Nat} : zok (zfty 9 7) (.ref x) = true := rfl
theorem zkr_9_8 {x : Nat} : zok (zfty 9 8) (.ref x) = true := rfl
theorem zkr_9_9 {x : Nat} : zok (zfty 9 9) (.ref x) = true := rfl
theorem zkr_9_10 {x : Nat} : zok (zfty 9 10) (.ref x) = true := rfl
theorem zkr_9_12 {x : Nat} : zok (zfty 9 12) (.ref x) = true := rfl
theorem zkr_9_13 {x : Nat} : zok (zfty 9 13) (.ref x) = true := rfl
theorem zkr_9_14 {x : Nat} : zok (zfty 9 14) (.ref x) = true := rfl
theorem zkr_9_15 {x : Nat} : zok (zfty 9 15) (.ref x) = true := rfl
theorem zkr_9_16 {x : Nat} : zok (zfty 9 16) (.ref x) = true := rfl
theorem zkr_9_18 {x : Nat} : zok (zfty 9 18) (.ref x) = true := rfl
theorem zkr_9_19 {x : Nat} : zok (zfty 9 19) (.ref x) = true := rfl
theorem zkr_9_22 {x : Nat} : zok (zfty 9 22) (.ref x) = true := rfl
theorem zkr_9_24 {x : Nat} : zok (zfty 9 24) (.ref x) = true := rfl
theorem kN_A {n : Nat} : (.inl (0, (n, .inl (fun _ => (0 : Int32)))) : zC) = kA n (fun _ => 0) := rfl
theorem kN_B {n : Nat} : (.inl (2, (n, .inl (fun _ => (0 : Int32)))) : zC) = kB n (fun _ => false) := rfl
theorem kN_C {n : Nat} : (.inl (3, (n, .inl (fun _ => (0 : Int32)))) : zC) = kC n (fun _ => 0) := rfl
theorem kN_L {n : Nat} : (.inl (1, (n, .inr (.inl (fun _ => (0 : Int64))))) : zC) = kL n (fun _ => 0) := rfl
theorem zmf_ne {f : zF} {q N K t i : Nat} {g : (Nat → Int32) ⊕ (Nat → Int64) ⊕ (Nat → UInt32) ⊕ (Nat → UInt64) ⊕ (Nat → Option Nat)} (h : i < q ∨ q + N < i) : zmf f q N K t g i = f i := by
  unfold zmf
  rw [if_neg (by omega), if_neg (by omega)]
theorem zmf_q {f : zF} {q N K t : Nat} {g : (Nat → Int32) ⊕ (Nat → Int64) ⊕ (Nat → UInt32) ⊕ (Nat → UInt64) ⊕ (Nat → Option Nat)} : zmf f q N K t g q = some (kR (t + 6) N (fun i => q + 1 + i)) := if_pos rfl
theorem zmf_r {f : zF} {q N K t i : Nat} {g : (Nat → Int32) ⊕ (Nat → Int64) ⊕ (Nat → UInt32) ⊕ (Nat → UInt64) ⊕ (Nat → Option Nat)} (h1 : q < i) (h2 : i ≤ q + N) : zmf f q N K t g i = some (.inl (t, (K, g))) := by
  unfold zmf
  rw [if_neg (by omega), if_pos ⟨h1, h2⟩]
def kP (i : Nat) : zC := .inl (5, (12, .inr (.inr (.inr (.inr (fun j => if j < i then some (218 + 4 * j) else none))))))
theorem kN_P : (.inl (5, (12, .inr (.inr (.inr (.inr (fun _ => none)))))) : zC) = kP 0 := by
  unfold kP
  congr 7
theorem kP_w {i : Nat} : zwq (some (kP i)) i (218 + 4 * i) = kP (i + 1) := by
  show (Sum.inl (5, (12, Sum.inr (Sum.inr (Sum.inr (Sum.inr (va_up (fun j => if j < i then some (218 + 4 * j) else none) i (some (218 + 4 * i)))))))) : zC) = _
  unfold kP
  congr 7
  funext j
  show (if j = i then some (218 + 4 * i) else (if j < i then some (218 + 4 * j) else none)) = _
  by_cases h : j = i
  · rw [if_pos h, if_pos (by omega), h]
  · rw [if_neg h]
    by_cases h2 : j < i
    · rw [if_pos h2, if_pos (by omega)]
    · rw [if_neg h2, if_neg (by omega)]
theorem kP_s {i : Nat} {fs : List Value} {j : Int32} : zrs (some (kP i)) (some (kO 2 fs)) j = zib j 12 := by
  show decide (5 = 5 ∧ 2 = 2 ∧ zib j 12 = true) = _
  simp
theorem kP_a {i : Nat} : zisa (some (kP i)) = true := rfl
theorem kP_n {i : Nat} : zln (some (kP i)) = 12 := rfl
theorem kP_12 : kP 12 = kR 5 12 (fun k => 218 + 4 * k) := rfl
/-- the first i costs set -/
def cN (i : Nat) : Nat → Nat := fun k => if k < i then 1 else 0
theorem cN_s {i : Nat} : zst (fun k => ((cN i k : Nat) : Int)) i 1 = fun k => ((cN (i + 1) k : Nat) : Int) := by
  funext k
  unfold zst cN
  by_cases h : k = i
  · rw [if_pos h, if_pos (by omega)]; rfl
  · rw [if_neg h]
    dsimp only
    by_cases h2 : k < i
    · rw [if_pos h2, if_pos (by omega)]
    · rw [if_neg h2, if_neg (by omega)]
theorem cN_CC : CC (cN 7) := fun k hk => by
  unfold cN
  rw [if_pos hk]
  omega
theorem PC_0 {X : Nat → List Nat} : PC 0 X (fun _ => []) 1 := by
  refine ⟨fun i j h7 h8 => by omega, fun i hi => ⟨fun c hc => (by cases hc), Nat.zero_le 6⟩, fun u => ⟨?_, ?_⟩⟩
  · rintro ⟨i, _, hu⟩; exact Or.inl hu.symm
  · rintro (rfl | ⟨i, hi, _⟩)
    · exact ⟨0, Nat.zero_lt_one, rfl⟩
    · cases hi
theorem SW_fre {n : Nat} {f g : zF} (h : ∀ i, (11 ≤ i ∧ i ≤ 144) → g i = f i) (hs : SW f n) : SW g n := by
  obtain ⟨KS, FS, SS, NS, TS, SL, WT, TB, ⟨s0, s1, s2, s3, s4, s5, s6⟩, k2, k3, k4, k5, ⟨FR, BK, WH, cn, c1, c2, c3, c4⟩, k7⟩ := hs
  refine ⟨KS, FS, SS, NS, TS, SL, WT, TB, ⟨(h _ (by omega)).trans s0, (h _ (by omega)).trans s1, (h _ (by omega)).trans s2, (h _ (by omega)).trans s3, (h _ (by omega)).trans s4, (h _ (by omega)).trans s5, (h _ (by omega)).trans s6⟩, (h _ (by omega)).trans k2, (h _ (by omega)).trans k3, (h _ (by omega)).trans k4, fun k hk => ?_, ⟨FR, BK, WH, cn, (h _ (by omega)).trans c1, (h _ (by omega)).trans c2, (h _ (by omega)).trans c3, (h _ (by omega)).trans c4⟩, k7⟩
  obtain ⟨Q, hq⟩ := k5 k hk
  exact ⟨Q, (h _ (by omega)).trans hq⟩
section
variable {d k s : Nat} {f : zF}
theorem i_X3 {p : Nat} (hd : 1 ≤ d) (h : f p = some (kO 3 [.null, .int (I 0)])) : ∃ (g : zF) (k' s' : Nat), zrun zTb d 24 [.ref p] f (some (p + 1), k, s) = some (.inl none, g, (some (p + 1 + 1), k', s')) ∧ k' = k + 1 ∧ s' = s + 60 ∧ (∀ i, (i < p ∨ p + 1 < i) → g i = f i) ∧ g p = some (kO 3 [.ref (p + 1), .int (I 1)]) ∧ g (p + 1) = some (kL 60 (fun _ => 0)) := by
  obtain ⟨d, rfl⟩ : ∃ e, d = e + 1 := ⟨d - 1, by omega⟩
  generalize hr : zrun zTb (d + 1) 24 [.ref p] f (some (p + 1), k, s) = r
  rw [zs_X3_init] at hr
  simp (disch := omega) only [ze_X3_init_0, ze_X3_init_9, ze_X3_init_12, ze_X3_init_17, zcal_x, zfh_nil, zfh_cons, zset_0, zset_1, zset_s, zcal_v, zcal_n, zcalI_n, zco_O, zcf_O, zcs_O, zisc_O, zr8_A, zr8_S, zri_A, zri_B, zri_C, zrl_L, zrd_D, zrs_R, zgi_A, zgi_S, zgi_B, zgi_C, zgl_L, zgd_D, zisa_A, zisa_S, zisa_L, zisa_B, zisa_R, zln_A, zln_S, zln_L, zln_B, zln_R, zwi_A, zwl_L, zwd_D, zclr_i, zclr_r, zclr_l, zclr_d, zclr_n, zok_i, zok_l, zok_b0, zok_b1, I_add, I_sub, I_mul, I_neg, J_add, J_sub, J_mul, J_toI, I_ofNat, I_cl, I_J, I_ne2, zup_same, zup_up, zup_ne, zc1_eqB, zc1_neB, zret_b, zret_b0, zret_b1, List.getD_cons_zero, List.getD_cons_succ, List.length_cons, List.length_nil, List.set_cons_zero, List.set_cons_succ, Option.toList, List.cons_append, List.nil_append, Int.cast_ofNat_Int, decide_eq_true_eq, Bool.and_eq_true, and_self, true_and, and_true, if_true, if_false, not_true_eq_false, not_false_eq_true, ↓reduceIte, Nat.reduceAdd, Nat.reduceLT, Nat.reduceLeDiff, Nat.reduceEqDiff, Int.reduceAdd, Int.reduceSub, Int.reduceMul, Int.reduceNeg, Int.reduceLT, Int.reduceLE, Int.reduceEq, Int.reduceToNat, Int.toNat_natCast, Nat.lt_add_one, Nat.zero_lt_succ, q1_eq_t, q1_eq_f, q2_eq_t, q2_eq_f, ql_eq_t, ql_eq_f, q1_ne_t, q1_ne_f, q2_ne_t, q2_ne_f, ql_ne_t, ql_ne_f, q1_lt_t, q1_lt_f, q2_lt_t, q2_lt_f, ql_lt_t, ql_lt_f, q1_ge_t, q1_ge_f, q2_ge_t, q2_ge_f, ql_ge_t, ql_ge_f, q1_gt_t, q1_gt_f, q2_gt_t, q2_gt_f, ql_gt_t, ql_gt_f, q1_le_t, q1_le_f, q2_le_t, q2_le_f, ql_le_t, ql_le_f, zib_t, qb_t, qb_f, nk_add, nk_mul, nk_sub, nk_d1, nk_d0, nk_toNat, nk_r1, nk_l1, nk_m1, nk_n1, nk_s1, nk_t1, nk_r2, nk_l2, nk_m2, nk_n2, nk_s2, nk_t2, nk_r3, nk_l3, nk_m3, nk_n3, nk_s3, nk_t3, nk_r4, nk_l4, nk_m4, nk_n4, nk_s4, nk_t4, nk_r6, nk_l6, nk_m6, nk_n6, nk_s6, nk_t6, nk_r7, nk_l7, nk_m7, nk_n7, nk_s7, nk_t7, nk_r8, nk_l8, nk_m8, nk_n8, nk_s8, nk_t8, nk_r12, nk_l12, nk_m12, nk_n12, nk_s12, nk_t12, nk_r31, nk_l31, nk_m31, nk_n31, nk_s31, nk_t31, nk_r32, nk_l32, nk_m32, nk_n32, nk_s32, nk_t32, nk_r59, nk_l59, nk_m59, nk_n59, nk_s59, nk_t59, nk_r60, nk_l60, nk_m60, nk_n60, nk_s60, nk_t60, nk_r96, nk_l96, nk_m96, nk_n96, nk_s96, nk_t96, nk_r97, nk_l97, nk_m97, nk_n97, nk_s97, nk_t97, nk_r120, nk_l120, nk_m120, nk_n120, nk_s120, nk_t120, nk_r240, nk_l240, nk_m240, nk_n240, nk_s240, nk_t240, nk_r255, nk_l255, nk_m255, nk_n255, nk_s255, nk_t255, nk_r256, nk_l256, nk_m256, nk_n256, nk_s256, nk_t256, Nat.add_zero, Nat.zero_add, Nat.mul_one, Nat.one_mul, Nat.mul_zero, Nat.zero_mul, Nat.sub_zero, Nat.reduceSub, Nat.reduceMul, Nat.add_sub_cancel, Bool.false_eq_true, Int.add_zero, Int.zero_add, Int.sub_zero, h, kN_A, kN_B, kN_C, kN_L, kN_P, zkr_3_0, zfty_3_1] at hr
  subst hr
  refine ⟨_, _, _, rfl, by omega, by omega, fun i hi => ?_, ?_, ?_⟩
  · simp (disch := omega) only [zup_ne]
  · simp (disch := omega) only [zup_same, zup_ne]
  · simp (disch := omega) only [zup_same, zup_ne]
theorem i_X2 {p : Nat} (hd : 1 ≤ d) (h : f p = some (kO 2 [.null, .null, .null, .int (I 0)])) : ∃ (g : zF) (k' s' : Nat), zrun zTb d 10 [.ref p] f (some (p + 1), k, s) = some (.inl none, g, (some (p + 1 + 1 + 1 + 1), k', s')) ∧ k' = k + 3 ∧ s' = s + 180 ∧ (∀ i, (i < p ∨ p + 3 < i) → g i = f i) ∧ wfp g p := by
  obtain ⟨d, rfl⟩ : ∃ e, d = e + 1 := ⟨d - 1, by omega⟩
  generalize hr : zrun zTb (d + 1) 10 [.ref p] f (some (p + 1), k, s) = r
  rw [zs_X2_init] at hr
  simp (disch := omega) only [ze_X2_init_0, ze_X2_init_9, ze_X2_init_12, ze_X2_init_17, ze_X2_init_20, ze_X2_init_25, ze_X2_init_28, zcal_x, zfh_nil, zfh_cons, zset_0, zset_1, zset_s, zcal_v, zcal_n, zcalI_n, zco_O, zcf_O, zcs_O, zisc_O, zr8_A, zr8_S, zri_A, zri_B, zri_C, zrl_L, zrd_D, zrs_R, zgi_A, zgi_S, zgi_B, zgi_C, zgl_L, zgd_D, zisa_A, zisa_S, zisa_L, zisa_B, zisa_R, zln_A, zln_S, zln_L, zln_B, zln_R, zwi_A, zwl_L, zwd_D, zclr_i, zclr_r, zclr_l, zclr_d, zclr_n, zok_i, zok_l, zok_b0, zok_b1, I_add, I_sub, I_mul, I_neg, J_add, J_sub, J_mul, J_toI, I_ofNat, I_cl, I_J, I_ne2, zup_same, zup_up, zup_ne, zc1_eqB, zc1_neB, zret_b, zret_b0, zret_b1, List.getD_cons_zero, List.getD_cons_succ, List.length_cons, List.length_nil, List.set_cons_zero, List.set_cons_succ, Option.toList, List.cons_append, List.nil_append, Int.cast_ofNat_Int, decide_eq_true_eq, Bool.and_eq_true, and_self, true_and, and_true, if_true, if_false, not_true_eq_false, not_false_eq_true, ↓reduceIte, Nat.reduceAdd, Nat.reduceLT, Nat.reduceLeDiff, Nat.reduceEqDiff, Int.reduceAdd, Int.reduceSub, Int.reduceMul, Int.reduceNeg, Int.reduceLT, Int.reduceLE, Int.reduceEq, Int.reduceToNat, Int.toNat_natCast, Nat.lt_add_one, Nat.zero_lt_succ, q1_eq_t, q1_eq_f, q2_eq_t, q2_eq_f, ql_eq_t, ql_eq_f, q1_ne_t, q1_ne_f, q2_ne_t, q2_ne_f, ql_ne_t, ql_ne_f, q1_lt_t, q1_lt_f, q2_lt_t, q2_lt_f, ql_lt_t, ql_lt_f, q1_ge_t, q1_ge_f, q2_ge_t, q2_ge_f, ql_ge_t, ql_ge_f, q1_gt_t, q1_gt_f, q2_gt_t, q2_gt_f, ql_gt_t, ql_gt_f, q1_le_t, q1_le_f, q2_le_t, q2_le_f, ql_le_t, ql_le_f, zib_t, qb_t, qb_f, nk_add, nk_mul, nk_sub, nk_d1, nk_d0, nk_toNat, nk_r1, nk_l1, nk_m1, nk_n1, nk_s1, nk_t1, nk_r2, nk_l2, nk_m2, nk_n2, nk_s2, nk_t2, nk_r3, nk_l3, nk_m3, nk_n3, nk_s3, nk_t3, nk_r4, nk_l4, nk_m4, nk_n4, nk_s4, nk_t4, nk_r6, nk_l6, nk_m6, nk_n6, nk_s6, nk_t6, nk_r7, nk_l7, nk_m7, nk_n7, nk_s7, nk_t7, nk_r8, nk_l8, nk_m8, nk_n8, nk_s8, nk_t8, nk_r12, nk_l12, nk_m12, nk_n12, nk_s12, nk_t12, nk_r31, nk_l31, nk_m31, nk_n31, nk_s31, nk_t31, nk_r32, nk_l32, nk_m32, nk_n32, nk_s32, nk_t32, nk_r59, nk_l59, nk_m59, nk_n59, nk_s59, nk_t59, nk_r60, nk_l60, nk_m60, nk_n60, nk_s60, nk_t60, nk_r96, nk_l96, nk_m96, nk_n96, nk_s96, nk_t96, nk_r97, nk_l97, nk_m97, nk_n97, nk_s97, nk_t97, nk_r120, nk_l120, nk_m120, nk_n120, nk_s120, nk_t120, nk_r240, nk_l240, nk_m240, nk_n240, nk_s240, nk_t240, nk_r255, nk_l255, nk_m255, nk_n255, nk_s255, nk_t255, nk_r256, nk_l256, nk_m256, nk_n256, nk_s256, nk_t256, Nat.add_zero, Nat.zero_add, Nat.mul_one, Nat.one_mul, Nat.mul_zero, Nat.zero_mul, Nat.sub_zero, Nat.reduceSub, Nat.reduceMul, Nat.add_sub_cancel, Bool.false_eq_true, Int.add_zero, Int.zero_add, Int.sub_zero, h, kN_A, kN_B, kN_C, kN_L, kN_P, zkr_2_0, zkr_2_1, zkr_2_2] at hr
  subst hr
  refine ⟨_, _, _, rfl, by omega, by omega, fun i hi => ?_, 0, fun _ => 0, fun _ => 0, fun _ => 0, ⟨?_, ?_, ?_, ?_⟩, fun i => ⟨Int.le_refl 0, (show (0 : Int) < 256 by decide)⟩⟩
  · simp (disch := omega) only [zup_ne]
  · simp (disch := omega) only [zup_same, zup_ne]; rfl
  · simp (disch := omega) only [zup_same, zup_ne]
  · simp (disch := omega) only [zup_same, zup_ne]
  · simp (disch := omega) only [zup_same, zup_ne]
theorem i_X0 (hd : 1 ≤ d) (h : f 141 = some (kO 0 [.null, .null, .null, .int (I 0)])) : ∃ (g : zF) (k' s' : Nat), zrun zTb d 0 [.ref 141] f (some 142, k, s) = some (.inl none, g, (some 145, k', s')) ∧ k' = k + 3 ∧ s' = s + 1260 ∧ (∀ i, (i < 141 ∨ 144 < i) → g i = f i) ∧ CUW g := by
  obtain ⟨d, rfl⟩ : ∃ e, d = e + 1 := ⟨d - 1, by omega⟩
  generalize hr : zrun zTb (d + 1) 0 [.ref 141] f (some 142, k, s) = r
  rw [zs_X0_init] at hr
  simp (disch := omega) only [ze_X0_init_0, ze_X0_init_10, ze_X0_init_13, ze_X0_init_19, ze_X0_init_22, ze_X0_init_28, ze_X0_init_31, zcal_x, zfh_nil, zfh_cons, zset_0, zset_1, zset_s, zcal_v, zcal_n, zcalI_n, zco_O, zcf_O, zcs_O, zisc_O, zr8_A, zr8_S, zri_A, zri_B, zri_C, zrl_L, zrd_D, zrs_R, zgi_A, zgi_S, zgi_B, zgi_C, zgl_L, zgd_D, zisa_A, zisa_S, zisa_L, zisa_B, zisa_R, zln_A, zln_S, zln_L, zln_B, zln_R, zwi_A, zwl_L, zwd_D, zclr_i, zclr_r, zclr_l, zclr_d, zclr_n, zok_i, zok_l, zok_b0, zok_b1, I_add, I_sub, I_mul, I_neg, J_add, J_sub, J_mul, J_toI, I_ofNat, I_cl, I_J, I_ne2, zup_same, zup_up, zup_ne, zc1_eqB, zc1_neB, zret_b, zret_b0, zret_b1, List.getD_cons_zero, List.getD_cons_succ, List.length_cons, List.length_nil, List.set_cons_zero, List.set_cons_succ, Option.toList, List.cons_append, List.nil_append, Int.cast_ofNat_Int, decide_eq_true_eq, Bool.and_eq_true, and_self, true_and, and_true, if_true, if_false, not_true_eq_false, not_false_eq_true, ↓reduceIte, Nat.reduceAdd, Nat.reduceLT, Nat.reduceLeDiff, Nat.reduceEqDiff, Int.reduceAdd, Int.reduceSub, Int.reduceMul, Int.reduceNeg, Int.reduceLT, Int.reduceLE, Int.reduceEq, Int.reduceToNat, Int.toNat_natCast, Nat.lt_add_one, Nat.zero_lt_succ, q1_eq_t, q1_eq_f, q2_eq_t, q2_eq_f, ql_eq_t, ql_eq_f, q1_ne_t, q1_ne_f, q2_ne_t, q2_ne_f, ql_ne_t, ql_ne_f, q1_lt_t, q1_lt_f, q2_lt_t, q2_lt_f, ql_lt_t, ql_lt_f, q1_ge_t, q1_ge_f, q2_ge_t, q2_ge_f, ql_ge_t, ql_ge_f, q1_gt_t, q1_gt_f, q2_gt_t, q2_gt_f, ql_gt_t, ql_gt_f, q1_le_t, q1_le_f, q2_le_t, q2_le_f, ql_le_t, ql_le_f, zib_t, qb_t, qb_f, nk_add, nk_mul, nk_sub, nk_d1, nk_d0, nk_toNat, nk_r1, nk_l1, nk_m1, nk_n1, nk_s1, nk_t1, nk_r2, nk_l2, nk_m2, nk_n2, nk_s2, nk_t2, nk_r3, nk_l3, nk_m3, nk_n3, nk_s3, nk_t3, nk_r4, nk_l4, nk_m4, nk_n4, nk_s4, nk_t4, nk_r6, nk_l6, nk_m6, nk_n6, nk_s6, nk_t6, nk_r7, nk_l7, nk_m7, nk_n7, nk_s7, nk_t7, nk_r8, nk_l8, nk_m8, nk_n8, nk_s8, nk_t8, nk_r12, nk_l12, nk_m12, nk_n12, nk_s12, nk_t12, nk_r31, nk_l31, nk_m31, nk_n31, nk_s31, nk_t31, nk_r32, nk_l32, nk_m32, nk_n32, nk_s32, nk_t32, nk_r59, nk_l59, nk_m59, nk_n59, nk_s59, nk_t59, nk_r60, nk_l60, nk_m60, nk_n60, nk_s60, nk_t60, nk_r96, nk_l96, nk_m96, nk_n96, nk_s96, nk_t96, nk_r97, nk_l97, nk_m97, nk_n97, nk_s97, nk_t97, nk_r120, nk_l120, nk_m120, nk_n120, nk_s120, nk_t120, nk_r240, nk_l240, nk_m240, nk_n240, nk_s240, nk_t240, nk_r255, nk_l255, nk_m255, nk_n255, nk_s255, nk_t255, nk_r256, nk_l256, nk_m256, nk_n256, nk_s256, nk_t256, Nat.add_zero, Nat.zero_add, Nat.mul_one, Nat.one_mul, Nat.mul_zero, Nat.zero_mul, Nat.sub_zero, Nat.reduceSub, Nat.reduceMul, Nat.add_sub_cancel, Bool.false_eq_true, Int.add_zero, Int.zero_add, Int.sub_zero, h, kN_A, kN_B, kN_C, kN_L, kN_P, zkr_0_0, zkr_0_1, zkr_0_2] at hr
  subst hr
  refine ⟨_, _, _, rfl, by omega, by omega, fun i hi => ?_, fun _ => 0, fun _ => 0, fun _ => 0, 0, ?_, ?_, ?_, ?_⟩
  · simp (disch := omega) only [zup_ne]
  · simp (disch := omega) only [zup_same, zup_ne]
  · simp (disch := omega) only [zup_same, zup_ne]; rfl
  · simp (disch := omega) only [zup_same, zup_ne]; rfl
  · simp (disch := omega) only [zup_same, zup_ne]; rfl
theorem i_X4 (hd : 1 ≤ d) (h : f 214 = some (kO 4 [.null, .int (I 0), .null, .int (I 0)])) : ∃ (g : zF) (k' s' : Nat), zrun zTb d 33 [.ref 214] f (some 215, k, s) = some (.inl none, g, (some 217, k', s')) ∧ k' = k + 2 ∧ s' = s + 420 ∧ (∀ i, (i < 214 ∨ 216 < i) → g i = f i) ∧ scr g 0 0 (fun _ => 0) (fun _ => 0) := by
  obtain ⟨d, rfl⟩ : ∃ e, d = e + 1 := ⟨d - 1, by omega⟩
  generalize hr : zrun zTb (d + 1) 33 [.ref 214] f (some 215, k, s) = r
  rw [zs_X4_init] at hr
  simp (disch := omega) only [ze_X4_init_0, ze_X4_init_10, ze_X4_init_13, ze_X4_init_19, ze_X4_init_22, zcal_x, zfh_nil, zfh_cons, zset_0, zset_1, zset_s, zcal_v, zcal_n, zcalI_n, zco_O, zcf_O, zcs_O, zisc_O, zr8_A, zr8_S, zri_A, zri_B, zri_C, zrl_L, zrd_D, zrs_R, zgi_A, zgi_S, zgi_B, zgi_C, zgl_L, zgd_D, zisa_A, zisa_S, zisa_L, zisa_B, zisa_R, zln_A, zln_S, zln_L, zln_B, zln_R, zwi_A, zwl_L, zwd_D, zclr_i, zclr_r, zclr_l, zclr_d, zclr_n, zok_i, zok_l, zok_b0, zok_b1, I_add, I_sub, I_mul, I_neg, J_add, J_sub, J_mul, J_toI, I_ofNat, I_cl, I_J, I_ne2, zup_same, zup_up, zup_ne, zc1_eqB, zc1_neB, zret_b, zret_b0, zret_b1, List.getD_cons_zero, List.getD_cons_succ, List.length_cons, List.length_nil, List.set_cons_zero, List.set_cons_succ, Option.toList, List.cons_append, List.nil_append, Int.cast_ofNat_Int, decide_eq_true_eq, Bool.and_eq_true, and_self, true_and, and_true, if_true, if_false, not_true_eq_false, not_false_eq_true, ↓reduceIte, Nat.reduceAdd, Nat.reduceLT, Nat.reduceLeDiff, Nat.reduceEqDiff, Int.reduceAdd, Int.reduceSub, Int.reduceMul, Int.reduceNeg, Int.reduceLT, Int.reduceLE, Int.reduceEq, Int.reduceToNat, Int.toNat_natCast, Nat.lt_add_one, Nat.zero_lt_succ, q1_eq_t, q1_eq_f, q2_eq_t, q2_eq_f, ql_eq_t, ql_eq_f, q1_ne_t, q1_ne_f, q2_ne_t, q2_ne_f, ql_ne_t, ql_ne_f, q1_lt_t, q1_lt_f, q2_lt_t, q2_lt_f, ql_lt_t, ql_lt_f, q1_ge_t, q1_ge_f, q2_ge_t, q2_ge_f, ql_ge_t, ql_ge_f, q1_gt_t, q1_gt_f, q2_gt_t, q2_gt_f, ql_gt_t, ql_gt_f, q1_le_t, q1_le_f, q2_le_t, q2_le_f, ql_le_t, ql_le_f, zib_t, qb_t, qb_f, nk_add, nk_mul, nk_sub, nk_d1, nk_d0, nk_toNat, nk_r1, nk_l1, nk_m1, nk_n1, nk_s1, nk_t1, nk_r2, nk_l2, nk_m2, nk_n2, nk_s2, nk_t2, nk_r3, nk_l3, nk_m3, nk_n3, nk_s3, nk_t3, nk_r4, nk_l4, nk_m4, nk_n4, nk_s4, nk_t4, nk_r6, nk_l6, nk_m6, nk_n6, nk_s6, nk_t6, nk_r7, nk_l7, nk_m7, nk_n7, nk_s7, nk_t7, nk_r8, nk_l8, nk_m8, nk_n8, nk_s8, nk_t8, nk_r12, nk_l12, nk_m12, nk_n12, nk_s12, nk_t12, nk_r31, nk_l31, nk_m31, nk_n31, nk_s31, nk_t31, nk_r32, nk_l32, nk_m32, nk_n32, nk_s32, nk_t32, nk_r59, nk_l59, nk_m59, nk_n59, nk_s59, nk_t59, nk_r60, nk_l60, nk_m60, nk_n60, nk_s60, nk_t60, nk_r96, nk_l96, nk_m96, nk_n96, nk_s96, nk_t96, nk_r97, nk_l97, nk_m97, nk_n97, nk_s97, nk_t97, nk_r120, nk_l120, nk_m120, nk_n120, nk_s120, nk_t120, nk_r240, nk_l240, nk_m240, nk_n240, nk_s240, nk_t240, nk_r255, nk_l255, nk_m255, nk_n255, nk_s255, nk_t255, nk_r256, nk_l256, nk_m256, nk_n256, nk_s256, nk_t256, Nat.add_zero, Nat.zero_add, Nat.mul_one, Nat.one_mul, Nat.mul_zero, Nat.zero_mul, Nat.sub_zero, Nat.reduceSub, Nat.reduceMul, Nat.add_sub_cancel, Bool.false_eq_true, Int.add_zero, Int.zero_add, Int.sub_zero, h, kN_A, kN_B, kN_C, kN_L, kN_P, zkr_4_0, zkr_4_2] at hr
  subst hr
  refine ⟨_, _, _, rfl, by omega, by omega, fun i hi => ?_, ?_, ?_, ?_⟩
  · simp (disch := omega) only [zup_ne]
  · simp (disch := omega) only [zup_same, zup_ne]; rfl
  · simp (disch := omega) only [zup_same, zup_ne]
  · simp (disch := omega) only [zup_same, zup_ne]
theorem i_X7 (hd : 1 ≤ d) (h : f 147 = some (kO 7 [.null, .int (I 0), .null])) : ∃ (g : zF) (k' s' : Nat), zrun zTb d 64 [.ref 147] f (some 148, k, s) = some (.inl none, g, (some 210, k', s')) ∧ k' = k + 62 ∧ s' = s + 486 ∧ (∀ i, (i < 147 ∨ 209 < i) → g i = f i) ∧ trok g := by
  obtain ⟨d, rfl⟩ : ∃ e, d = e + 1 := ⟨d - 1, by omega⟩
  generalize hr : zrun zTb (d + 1) 64 [.ref 147] f (some 148, k, s) = r
  rw [zs_X7_init] at hr
  simp (disch := omega) only [ze_X7_init_0, ze_X7_init_9, ze_X7_init_12, ze_X7_init_21, ze_X7_init_24, zcal_x, zfh_nil, zfh_cons, zset_0, zset_1, zset_s, zcal_v, zcal_n, zcalI_n, zco_O, zcf_O, zcs_O, zisc_O, zr8_A, zr8_S, zri_A, zri_B, zri_C, zrl_L, zrd_D, zrs_R, zgi_A, zgi_S, zgi_B, zgi_C, zgl_L, zgd_D, zisa_A, zisa_S, zisa_L, zisa_B, zisa_R, zln_A, zln_S, zln_L, zln_B, zln_R, zwi_A, zwl_L, zwd_D, zclr_i, zclr_r, zclr_l, zclr_d, zclr_n, zok_i, zok_l, zok_b0, zok_b1, I_add, I_sub, I_mul, I_neg, J_add, J_sub, J_mul, J_toI, I_ofNat, I_cl, I_J, I_ne2, zup_same, zup_up, zup_ne, zc1_eqB, zc1_neB, zret_b, zret_b0, zret_b1, List.getD_cons_zero, List.getD_cons_succ, List.length_cons, List.length_nil, List.set_cons_zero, List.set_cons_succ, Option.toList, List.cons_append, List.nil_append, Int.cast_ofNat_Int, decide_eq_true_eq, Bool.and_eq_true, and_self, true_and, and_true, if_true, if_false, not_true_eq_false, not_false_eq_true, ↓reduceIte, Nat.reduceAdd, Nat.reduceLT, Nat.reduceLeDiff, Nat.reduceEqDiff, Int.reduceAdd, Int.reduceSub, Int.reduceMul, Int.reduceNeg, Int.reduceLT, Int.reduceLE, Int.reduceEq, Int.reduceToNat, Int.toNat_natCast, Nat.lt_add_one, Nat.zero_lt_succ, q1_eq_t, q1_eq_f, q2_eq_t, q2_eq_f, ql_eq_t, ql_eq_f, q1_ne_t, q1_ne_f, q2_ne_t, q2_ne_f, ql_ne_t, ql_ne_f, q1_lt_t, q1_lt_f, q2_lt_t, q2_lt_f, ql_lt_t, ql_lt_f, q1_ge_t, q1_ge_f, q2_ge_t, q2_ge_f, ql_ge_t, ql_ge_f, q1_gt_t, q1_gt_f, q2_gt_t, q2_gt_f, ql_gt_t, ql_gt_f, q1_le_t, q1_le_f, q2_le_t, q2_le_f, ql_le_t, ql_le_f, zib_t, qb_t, qb_f, nk_add, nk_mul, nk_sub, nk_d1, nk_d0, nk_toNat, nk_r1, nk_l1, nk_m1, nk_n1, nk_s1, nk_t1, nk_r2, nk_l2, nk_m2, nk_n2, nk_s2, nk_t2, nk_r3, nk_l3, nk_m3, nk_n3, nk_s3, nk_t3, nk_r4, nk_l4, nk_m4, nk_n4, nk_s4, nk_t4, nk_r6, nk_l6, nk_m6, nk_n6, nk_s6, nk_t6, nk_r7, nk_l7, nk_m7, nk_n7, nk_s7, nk_t7, nk_r8, nk_l8, nk_m8, nk_n8, nk_s8, nk_t8, nk_r12, nk_l12, nk_m12, nk_n12, nk_s12, nk_t12, nk_r31, nk_l31, nk_m31, nk_n31, nk_s31, nk_t31, nk_r32, nk_l32, nk_m32, nk_n32, nk_s32, nk_t32, nk_r59, nk_l59, nk_m59, nk_n59, nk_s59, nk_t59, nk_r60, nk_l60, nk_m60, nk_n60, nk_s60, nk_t60, nk_r96, nk_l96, nk_m96, nk_n96, nk_s96, nk_t96, nk_r97, nk_l97, nk_m97, nk_n97, nk_s97, nk_t97, nk_r120, nk_l120, nk_m120, nk_n120, nk_s120, nk_t120, nk_r240, nk_l240, nk_m240, nk_n240, nk_s240, nk_t240, nk_r255, nk_l255, nk_m255, nk_n255, nk_s255, nk_t255, nk_r256, nk_l256, nk_m256, nk_n256, nk_s256, nk_t256, Nat.add_zero, Nat.zero_add, Nat.mul_one, Nat.one_mul, Nat.mul_zero, Nat.zero_mul, Nat.sub_zero, Nat.reduceSub, Nat.reduceMul, Nat.add_sub_cancel, Bool.false_eq_true, Int.add_zero, Int.zero_add, Int.sub_zero, h, zmf_ne, kN_A, kN_B, kN_C, kN_L, kN_P, zkr_7_0, zkr_7_2] at hr
  subst hr
  refine ⟨_, _, _, rfl, by omega, by omega, fun i hi => ?_, 0, fun _ => 0, fun _ _ => 0, ⟨?_, ?_, ?_, fun i hi => ?_⟩, fun i s => (show (0 : Nat) < 128 by decide), fun i => ⟨Int.le_refl 0, (show (0 : Int) < 256 by decide)⟩⟩
  · simp (disch := omega) only [zup_ne, zmf_ne]
  · simp (disch := omega) only [zup_same, zup_ne]; rfl
  · simp (disch := omega) only [zup_same, zup_ne, zmf_ne]
  · simp (disch := omega) only [zup_same, zup_ne, zmf_q]
  · simp (disch := omega) only [zup_ne, zmf_r]; rfl
theorem i_X1 (hd : 2 ≤ d) (h : f 2 = some (kO 1 [.null, .null, .int (I 0), .null, .null])) : ∃ (g : zF) (k' s' : Nat), zrun zTb d 4 [.ref 2] f (some 3, k, s) = some (.inl none, g, (some 9, k', s')) ∧ k' = k + 6 ∧ s' = s + 144 ∧ (∀ i, (i < 2 ∨ 8 < i) → g i = f i) ∧ EX g 0 (fun _ => []) (fun _ => false) (fun _ => []) 1 := by
  obtain ⟨d, rfl⟩ : ∃ e, d = e + 1 := ⟨d - 1, by omega⟩
  obtain ⟨h1, hh1⟩ : ∃ h1, h1 = (zup (zup (zup (zup (zup f 3 (kL 10 (fun _ => 0))) 2 (kO 1 [.ref 3, .null, .int (I 0), .null, .null])) 4 (kB 10 (fun _ => false))) 2 (kO 1 [.ref 3, .ref 4, .int (I 0), .null, .null])) 5 (kO 3 [.null, .int (I 0)])) := ⟨_, rfl⟩
  obtain ⟨g1, k1, s1, e1, ek1, es1, o1, a1, b1⟩ := i_X3 (d := d) (k := k + 1 + 1 + 1) (s := s + 10 + 10 + 2) (f := h1) (p := 5) (by omega) (by rw [hh1]; simp (disch := omega) only [zup_same])
  have o12 : g1 2 = some (kO 1 [.ref 3, .ref 4, .int (I 0), .null, .null]) := by rw [o1 2 (by omega), hh1]; simp (disch := omega) only [zup_same, zup_ne]
  obtain ⟨h2, hh2⟩ : ∃ h2, h2 = (zup (zup g1 2 (kO 1 [.ref 3, .ref 4, .int (I 0), .ref 5, .null])) 7 (kO 3 [.null, .int (I 0)])) := ⟨_, rfl⟩
  obtain ⟨g2, k2, s2, e2, ek2, es2, o2, a2, b2⟩ := i_X3 (d := d) (k := k1 + 1) (s := s1 + 2) (f := h2) (p := 7) (by omega) (by rw [hh2]; simp (disch := omega) only [zup_same])
  have o22 : g2 2 = some (kO 1 [.ref 3, .ref 4, .int (I 0), .ref 5, .null]) := by rw [o2 2 (by omega), hh2]; simp (disch := omega) only [zup_same, zup_ne]
  simp only [Nat.reduceAdd] at e1 e2 a1 a2 b1 b2
  generalize hr : zrun zTb (d + 1) 4 [.ref 2] f (some 3, k, s) = r
  rw [zs_X1_init] at hr
  simp (disch := omega) only [ze_X1_init_0, ze_X1_init_9, ze_X1_init_12, ze_X1_init_17, ze_X1_init_20, ze_X1_init_24, ze_X1_init_28, ze_X1_init_31, ze_X1_init_35, ze_X1_init_39, ze_X1_init_42, zcal_x, zfh_nil, zfh_cons, zset_0, zset_1, zset_s, zcal_v, zcal_n, zcalI_n, zco_O, zcf_O, zcs_O, zisc_O, zr8_A, zr8_S, zri_A, zri_B, zri_C, zrl_L, zrd_D, zrs_R, zgi_A, zgi_S, zgi_B, zgi_C, zgl_L, zgd_D, zisa_A, zisa_S, zisa_L, zisa_B, zisa_R, zln_A, zln_S, zln_L, zln_B, zln_R, zwi_A, zwl_L, zwd_D, zclr_i, zclr_r, zclr_l, zclr_d, zclr_n, zok_i, zok_l, zok_b0, zok_b1, I_add, I_sub, I_mul, I_neg, J_add, J_sub, J_mul, J_toI, I_ofNat, I_cl, I_J, I_ne2, zup_same, zup_up, zup_ne, zc1_eqB, zc1_neB, zret_b, zret_b0, zret_b1, List.getD_cons_zero, List.getD_cons_succ, List.length_cons, List.length_nil, List.set_cons_zero, List.set_cons_succ, Option.toList, List.cons_append, List.nil_append, Int.cast_ofNat_Int, decide_eq_true_eq, Bool.and_eq_true, and_self, true_and, and_true, if_true, if_false, not_true_eq_false, not_false_eq_true, ↓reduceIte, Nat.reduceAdd, Nat.reduceLT, Nat.reduceLeDiff, Nat.reduceEqDiff, Int.reduceAdd, Int.reduceSub, Int.reduceMul, Int.reduceNeg, Int.reduceLT, Int.reduceLE, Int.reduceEq, Int.reduceToNat, Int.toNat_natCast, Nat.lt_add_one, Nat.zero_lt_succ, q1_eq_t, q1_eq_f, q2_eq_t, q2_eq_f, ql_eq_t, ql_eq_f, q1_ne_t, q1_ne_f, q2_ne_t, q2_ne_f, ql_ne_t, ql_ne_f, q1_lt_t, q1_lt_f, q2_lt_t, q2_lt_f, ql_lt_t, ql_lt_f, q1_ge_t, q1_ge_f, q2_ge_t, q2_ge_f, ql_ge_t, ql_ge_f, q1_gt_t, q1_gt_f, q2_gt_t, q2_gt_f, ql_gt_t, ql_gt_f, q1_le_t, q1_le_f, q2_le_t, q2_le_f, ql_le_t, ql_le_f, zib_t, qb_t, qb_f, nk_add, nk_mul, nk_sub, nk_d1, nk_d0, nk_toNat, nk_r1, nk_l1, nk_m1, nk_n1, nk_s1, nk_t1, nk_r2, nk_l2, nk_m2, nk_n2, nk_s2, nk_t2, nk_r3, nk_l3, nk_m3, nk_n3, nk_s3, nk_t3, nk_r4, nk_l4, nk_m4, nk_n4, nk_s4, nk_t4, nk_r6, nk_l6, nk_m6, nk_n6, nk_s6, nk_t6, nk_r7, nk_l7, nk_m7, nk_n7, nk_s7, nk_t7, nk_r8, nk_l8, nk_m8, nk_n8, nk_s8, nk_t8, nk_r12, nk_l12, nk_m12, nk_n12, nk_s12, nk_t12, nk_r31, nk_l31, nk_m31, nk_n31, nk_s31, nk_t31, nk_r32, nk_l32, nk_m32, nk_n32, nk_s32, nk_t32, nk_r59, nk_l59, nk_m59, nk_n59, nk_s59, nk_t59, nk_r60, nk_l60, nk_m60, nk_n60, nk_s60, nk_t60, nk_r96, nk_l96, nk_m96, nk_n96, nk_s96, nk_t96, nk_r97, nk_l97, nk_m97, nk_n97, nk_s97, nk_t97, nk_r120, nk_l120, nk_m120, nk_n120, nk_s120, nk_t120, nk_r240, nk_l240, nk_m240, nk_n240, nk_s240, nk_t240, nk_r255, nk_l255, nk_m255, nk_n255, nk_s255, nk_t255, nk_r256, nk_l256, nk_m256, nk_n256, nk_s256, nk_t256, Nat.add_zero, Nat.zero_add, Nat.mul_one, Nat.one_mul, Nat.mul_zero, Nat.zero_mul, Nat.sub_zero, Nat.reduceSub, Nat.reduceMul, Nat.add_sub_cancel, Bool.false_eq_true, Int.add_zero, Int.zero_add, Int.sub_zero, h, zd_3, kN_A, kN_B, kN_C, kN_L, kN_P, zkr_1_0, zkr_1_1, zkr_1_3, zkr_1_4, o12, o22, ← hh1, e1, ← hh2, e2] at hr
  subst hr
  refine ⟨_, _, _, rfl, by omega, by omega, fun i hi => ?_, 5, 7, fun _ => 0, fun _ => 0, 1, Or.inl ⟨rfl, rfl⟩, ⟨?_, ?_, ?_⟩, fun i hi => (by cases hi), ⟨fun _ => 0, ?_, ?_, fun i hi => ?_, by omega, (PC_0 (X := fun _ => [])).1, (PC_0 (X := fun _ => [])).2.1⟩, ?_, ?_, by omega, fun i hi => (by cases hi)⟩
  · rw [zup_ne (by omega), o2 i (by omega), hh2, zup_ne (by omega), zup_ne (by omega), o1 i (by omega), hh1]
    simp (disch := omega) only [zup_ne]
  · rw [zup_same]; rfl
  · rw [zup_ne (by omega), o2 3 (by omega), hh2, zup_ne (by omega), zup_ne (by omega), o1 3 (by omega), hh1]
    simp (disch := omega) only [zup_same, zup_ne]
  · rw [zup_ne (by omega), o2 4 (by omega), hh2, zup_ne (by omega), zup_ne (by omega), o1 4 (by omega), hh1]
    simp (disch := omega) only [zup_same, zup_ne]
  · rw [zup_ne (by omega), o2 5 (by omega), hh2, zup_ne (by omega), zup_ne (by omega)]; exact a1
  · rw [zup_ne (by omega), o2 6 (by omega), hh2, zup_ne (by omega), zup_ne (by omega)]; exact b1
  · rfl
  · rw [zup_ne (by omega)]; exact a2
  · rw [zup_ne (by omega)]; exact b2
set_option maxRecDepth 100000 in
theorem i_X6 (hd : 2 ≤ d) (h : f 11 = some (kO 6 [.null, .null, .null, .null, .null, .null, .null, .null, .null, .null, .int (I 0)])) : ∃ (g : zF) (k' s' : Nat), zrun zTb d 50 [.ref 11] f (some 12, k, s) = some (.inl none, g, (some 145, k', s')) ∧ k' = k + 133 ∧ s' = s + 9620 ∧ (∀ i, (i < 11 ∨ 144 < i) → g i = f i) ∧ SW g 0 := by
  obtain ⟨d, rfl⟩ : ∃ e, d = e + 1 := ⟨d - 1, by omega⟩
  obtain ⟨h1, hh1⟩ : ∃ h1, h1 = (zup (zup (zup (zup (zup (zup (zmf (zup (zup (zup (zup (zup (zup (zup (zup (zup (zup (zup (zup f 12 (kA 120 (fun _ => 0))) 11 (kO 6 [.ref 12, .null, .null, .null, .null, .null, .null, .null, .null, .null, .int (I 0)])) 13 (kA 120 (fun _ => 0))) 11 (kO 6 [.ref 12, .ref 13, .null, .null, .null, .null, .null, .null, .null, .null, .int (I 0)])) 14 (kA 120 (fun _ => 0))) 11 (kO 6 [.ref 12, .ref 13, .ref 14, .null, .null, .null, .null, .null, .null, .null, .int (I 0)])) 15 (kA 120 (fun _ => 0))) 11 (kO 6 [.ref 12, .ref 13, .ref 14, .ref 15, .null, .null, .null, .null, .null, .null, .int (I 0)])) 16 (kA 120 (fun _ => 0))) 11 (kO 6 [.ref 12, .ref 13, .ref 14, .ref 15, .ref 16, .null, .null, .null, .null, .null, .int (I 0)])) 17 (kL 120 (fun _ => 0))) 11 (kO 6 [.ref 12, .ref 13, .ref 14, .ref 15, .ref 16, .ref 17, .null, .null, .null, .null, .int (I 0)])) 18 120 60 1 (.inr (.inl (fun _ => 0)))) 11 (kO 6 [.ref 12, .ref 13, .ref 14, .ref 15, .ref 16, .ref 17, .ref 18, .null, .null, .null, .int (I 0)])) 139 (kA 256 (fun _ => 0))) 11 (kO 6 [.ref 12, .ref 13, .ref 14, .ref 15, .ref 16, .ref 17, .ref 18, .ref 139, .null, .null, .int (I 0)])) 140 (kA 60 (fun _ => 0))) 11 (kO 6 [.ref 12, .ref 13, .ref 14, .ref 15, .ref 16, .ref 17, .ref 18, .ref 139, .ref 140, .null, .int (I 0)])) 141 (kO 0 [.null, .null, .null, .int (I 0)])) := ⟨_, rfl⟩
  obtain ⟨g1, k1, s1, e1, ek1, es1, o1, a1⟩ := i_X0 (d := d) (k := k + 1 + 1 + 1 + 1 + 1 + 1 + 121 + 1 + 1 + 1) (s := s + 120 + 120 + 120 + 120 + 120 + 120 + 7320 + 256 + 60 + 4) (f := h1) (by omega) (by rw [hh1]; simp (disch := omega) only [zup_same])
  have o12 : g1 11 = some (kO 6 [.ref 12, .ref 13, .ref 14, .ref 15, .ref 16, .ref 17, .ref 18, .ref 139, .ref 140, .null, .int (I 0)]) := by rw [o1 11 (by omega), hh1]; simp (disch := omega) only [zup_same, zup_ne]
  generalize hr : zrun zTb (d + 1) 50 [.ref 11] f (some 12, k, s) = r
  rw [zs_X6_init] at hr
  simp (disch := omega) only [ze_X6_init_0, ze_X6_init_9, ze_X6_init_12, ze_X6_init_17, ze_X6_init_20, ze_X6_init_25, ze_X6_init_28, ze_X6_init_33, ze_X6_init_36, ze_X6_init_41, ze_X6_init_44, ze_X6_init_49, ze_X6_init_52, ze_X6_init_61, ze_X6_init_64, ze_X6_init_70, ze_X6_init_73, ze_X6_init_78, ze_X6_init_81, ze_X6_init_85, ze_X6_init_89, ze_X6_init_92, zcal_x, zfh_nil, zfh_cons, zset_0, zset_1, zset_s, zcal_v, zcal_n, zcalI_n, zco_O, zcf_O, zcs_O, zisc_O, zr8_A, zr8_S, zri_A, zri_B, zri_C, zrl_L, zrd_D, zrs_R, zgi_A, zgi_S, zgi_B, zgi_C, zgl_L, zgd_D, zisa_A, zisa_S, zisa_L, zisa_B, zisa_R, zln_A, zln_S, zln_L, zln_B, zln_R, zwi_A, zwl_L, zwd_D, zclr_i, zclr_r, zclr_l, zclr_d, zclr_n, zok_i, zok_l, zok_b0, zok_b1, I_add, I_sub, I_mul, I_neg, J_add, J_sub, J_mul, J_toI, I_ofNat, I_cl, I_J, I_ne2, zup_same, zup_up, zup_ne, zc1_eqB, zc1_neB, zret_b, zret_b0, zret_b1, List.getD_cons_zero, List.getD_cons_succ, List.length_cons, List.length_nil, List.set_cons_zero, List.set_cons_succ, Option.toList, List.cons_append, List.nil_append, Int.cast_ofNat_Int, decide_eq_true_eq, Bool.and_eq_true, and_self, true_and, and_true, if_true, if_false, not_true_eq_false, not_false_eq_true, ↓reduceIte, Nat.reduceAdd, Nat.reduceLT, Nat.reduceLeDiff, Nat.reduceEqDiff, Int.reduceAdd, Int.reduceSub, Int.reduceMul, Int.reduceNeg, Int.reduceLT, Int.reduceLE, Int.reduceEq, Int.reduceToNat, Int.toNat_natCast, Nat.lt_add_one, Nat.zero_lt_succ, q1_eq_t, q1_eq_f, q2_eq_t, q2_eq_f, ql_eq_t, ql_eq_f, q1_ne_t, q1_ne_f, q2_ne_t, q2_ne_f, ql_ne_t, ql_ne_f, q1_lt_t, q1_lt_f, q2_lt_t, q2_lt_f, ql_lt_t, ql_lt_f, q1_ge_t, q1_ge_f, q2_ge_t, q2_ge_f, ql_ge_t, ql_ge_f, q1_gt_t, q1_gt_f, q2_gt_t, q2_gt_f, ql_gt_t, ql_gt_f, q1_le_t, q1_le_f, q2_le_t, q2_le_f, ql_le_t, ql_le_f, zib_t, qb_t, qb_f, nk_add, nk_mul, nk_sub, nk_d1, nk_d0, nk_toNat, nk_r1, nk_l1, nk_m1, nk_n1, nk_s1, nk_t1, nk_r2, nk_l2, nk_m2, nk_n2, nk_s2, nk_t2, nk_r3, nk_l3, nk_m3, nk_n3, nk_s3, nk_t3, nk_r4, nk_l4, nk_m4, nk_n4, nk_s4, nk_t4, nk_r6, nk_l6, nk_m6, nk_n6, nk_s6, nk_t6, nk_r7, nk_l7, nk_m7, nk_n7, nk_s7, nk_t7, nk_r8, nk_l8, nk_m8, nk_n8, nk_s8, nk_t8, nk_r12, nk_l12, nk_m12, nk_n12, nk_s12, nk_t12, nk_r31, nk_l31, nk_m31, nk_n31, nk_s31, nk_t31, nk_r32, nk_l32, nk_m32, nk_n32, nk_s32, nk_t32, nk_r59, nk_l59, nk_m59, nk_n59, nk_s59, nk_t59, nk_r60, nk_l60, nk_m60, nk_n60, nk_s60, nk_t60, nk_r96, nk_l96, nk_m96, nk_n96, nk_s96, nk_t96, nk_r97, nk_l97, nk_m97, nk_n97, nk_s97, nk_t97, nk_r120, nk_l120, nk_m120, nk_n120, nk_s120, nk_t120, nk_r240, nk_l240, nk_m240, nk_n240, nk_s240, nk_t240, nk_r255, nk_l255, nk_m255, nk_n255, nk_s255, nk_t255, nk_r256, nk_l256, nk_m256, nk_n256, nk_s256, nk_t256, Nat.add_zero, Nat.zero_add, Nat.mul_one, Nat.one_mul, Nat.mul_zero, Nat.zero_mul, Nat.sub_zero, Nat.reduceSub, Nat.reduceMul, Nat.add_sub_cancel, Bool.false_eq_true, Int.add_zero, Int.zero_add, Int.sub_zero, h, zmf_ne, zd_0, kN_A, kN_B, kN_C, kN_L, kN_P, zkr_6_0, zkr_6_1, zkr_6_2, zkr_6_3, zkr_6_4, zkr_6_5, zkr_6_6, zkr_6_7, zkr_6_8, zkr_6_9, o12, ← hh1, e1] at hr
  subst hr
  refine ⟨_, _, _, rfl, by omega, by omega, fun i hi => ?_, fun _ => 0, fun _ => 0, fun _ => 0, fun _ => 0, fun _ => 0, fun _ => 0, fun _ => 0, fun _ => 0, ⟨?_, ?_, ?_, ?_, ?_, ?_, ?_⟩, ?_, ?_, ?_, fun i hi => ⟨fun _ => 0, ?_⟩, ?_, by omega⟩
  · rw [zup_ne (by omega), o1 i (by omega), hh1]
    simp (disch := omega) only [zup_ne, zmf_ne]
  · rw [zup_same]; rfl
  · rw [zup_ne (by omega), o1 12 (by omega), hh1]
    simp (disch := omega) only [zup_same, zup_ne, zmf_ne]
  · rw [zup_ne (by omega), o1 13 (by omega), hh1]
    simp (disch := omega) only [zup_same, zup_ne, zmf_ne]
  · rw [zup_ne (by omega), o1 14 (by omega), hh1]
    simp (disch := omega) only [zup_same, zup_ne, zmf_ne]
  · rw [zup_ne (by omega), o1 15 (by omega), hh1]
    simp (disch := omega) only [zup_same, zup_ne, zmf_ne]
  · rw [zup_ne (by omega), o1 16 (by omega), hh1]
    simp (disch := omega) only [zup_same, zup_ne, zmf_ne]
  · rw [zup_ne (by omega), o1 17 (by omega), hh1]
    simp (disch := omega) only [zup_same, zup_ne, zmf_ne]; rfl
  · rw [zup_ne (by omega), o1 18 (by omega), hh1]
    simp (disch := omega) only [zup_same, zup_ne, zmf_q]
  · rw [zup_ne (by omega), o1 139 (by omega), hh1]
    simp (disch := omega) only [zup_same, zup_ne]
  · rw [zup_ne (by omega), o1 140 (by omega), hh1]
    simp (disch := omega) only [zup_same, zup_ne]
  · rw [zup_ne (by omega), o1 (19 + i) (by omega), hh1]
    simp (disch := omega) only [zup_ne, zmf_r]; rfl
  · obtain ⟨FR, BK, WH, cn, c1, c2, c3, c4⟩ := a1
    exact ⟨FR, BK, WH, cn, by rw [zup_ne (by omega)]; exact c1, by rw [zup_ne (by omega)]; exact c2, by rw [zup_ne (by omega)]; exact c3, by rw [zup_ne (by omega)]; exact c4⟩
theorem i_X5 (hd : 3 ≤ d) (h : f 10 = some (kO 5 [.null, .null, .null, .long (J 0), .long (J 0)])) : ∃ (g : zF) (k' s' : Nat), zrun zTb d 42 [.ref 10] f (some 11, k, s) = some (.inl none, g, (some 147, k', s')) ∧ k' = k + 136 ∧ s' = s + 9700 ∧ (∀ i, (i < 10 ∨ 146 < i) → g i = f i) ∧ SRW g 0 := by
  obtain ⟨d, rfl⟩ : ∃ e, d = e + 1 := ⟨d - 1, by omega⟩
  obtain ⟨h1, hh1⟩ : ∃ h1, h1 = (zup f 11 (kO 6 [.null, .null, .null, .null, .null, .null, .null, .null, .null, .null, .int (I 0)])) := ⟨_, rfl⟩
  obtain ⟨g1, k1, s1, e1, ek1, es1, o1, a1⟩ := i_X6 (d := d) (k := k + 1) (s := s + 11) (f := h1) (by omega) (by rw [hh1]; simp (disch := omega) only [zup_same])
  have o12 : g1 10 = some (kO 5 [.null, .null, .null, .long (J 0), .long (J 0)]) := by rw [o1 10 (by omega), hh1, zup_ne (by omega)]; exact h
  generalize hr : zrun zTb (d + 1) 42 [.ref 10] f (some 11, k, s) = r
  rw [zs_X5_init] at hr
  simp (disch := omega) only [ze_X5_init_0, ze_X5_init_8, ze_X5_init_12, ze_X5_init_15, ze_X5_init_20, ze_X5_init_23, ze_X5_init_28, ze_X5_init_31, zcal_x, zfh_nil, zfh_cons, zset_0, zset_1, zset_s, zcal_v, zcal_n, zcalI_n, zco_O, zcf_O, zcs_O, zisc_O, zr8_A, zr8_S, zri_A, zri_B, zri_C, zrl_L, zrd_D, zrs_R, zgi_A, zgi_S, zgi_B, zgi_C, zgl_L, zgd_D, zisa_A, zisa_S, zisa_L, zisa_B, zisa_R, zln_A, zln_S, zln_L, zln_B, zln_R, zwi_A, zwl_L, zwd_D, zclr_i, zclr_r, zclr_l, zclr_d, zclr_n, zok_i, zok_l, zok_b0, zok_b1, I_add, I_sub, I_mul, I_neg, J_add, J_sub, J_mul, J_toI, I_ofNat, I_cl, I_J, I_ne2, zup_same, zup_up, zup_ne, zc1_eqB, zc1_neB, zret_b, zret_b0, zret_b1, List.getD_cons_zero, List.getD_cons_succ, List.length_cons, List.length_nil, List.set_cons_zero, List.set_cons_succ, Option.toList, List.cons_append, List.nil_append, Int.cast_ofNat_Int, decide_eq_true_eq, Bool.and_eq_true, and_self, true_and, and_true, if_true, if_false, not_true_eq_false, not_false_eq_true, ↓reduceIte, Nat.reduceAdd, Nat.reduceLT, Nat.reduceLeDiff, Nat.reduceEqDiff, Int.reduceAdd, Int.reduceSub, Int.reduceMul, Int.reduceNeg, Int.reduceLT, Int.reduceLE, Int.reduceEq, Int.reduceToNat, Int.toNat_natCast, Nat.lt_add_one, Nat.zero_lt_succ, q1_eq_t, q1_eq_f, q2_eq_t, q2_eq_f, ql_eq_t, ql_eq_f, q1_ne_t, q1_ne_f, q2_ne_t, q2_ne_f, ql_ne_t, ql_ne_f, q1_lt_t, q1_lt_f, q2_lt_t, q2_lt_f, ql_lt_t, ql_lt_f, q1_ge_t, q1_ge_f, q2_ge_t, q2_ge_f, ql_ge_t, ql_ge_f, q1_gt_t, q1_gt_f, q2_gt_t, q2_gt_f, ql_gt_t, ql_gt_f, q1_le_t, q1_le_f, q2_le_t, q2_le_f, ql_le_t, ql_le_f, zib_t, qb_t, qb_f, nk_add, nk_mul, nk_sub, nk_d1, nk_d0, nk_toNat, nk_r1, nk_l1, nk_m1, nk_n1, nk_s1, nk_t1, nk_r2, nk_l2, nk_m2, nk_n2, nk_s2, nk_t2, nk_r3, nk_l3, nk_m3, nk_n3, nk_s3, nk_t3, nk_r4, nk_l4, nk_m4, nk_n4, nk_s4, nk_t4, nk_r6, nk_l6, nk_m6, nk_n6, nk_s6, nk_t6, nk_r7, nk_l7, nk_m7, nk_n7, nk_s7, nk_t7, nk_r8, nk_l8, nk_m8, nk_n8, nk_s8, nk_t8, nk_r12, nk_l12, nk_m12, nk_n12, nk_s12, nk_t12, nk_r31, nk_l31, nk_m31, nk_n31, nk_s31, nk_t31, nk_r32, nk_l32, nk_m32, nk_n32, nk_s32, nk_t32, nk_r59, nk_l59, nk_m59, nk_n59, nk_s59, nk_t59, nk_r60, nk_l60, nk_m60, nk_n60, nk_s60, nk_t60, nk_r96, nk_l96, nk_m96, nk_n96, nk_s96, nk_t96, nk_r97, nk_l97, nk_m97, nk_n97, nk_s97, nk_t97, nk_r120, nk_l120, nk_m120, nk_n120, nk_s120, nk_t120, nk_r240, nk_l240, nk_m240, nk_n240, nk_s240, nk_t240, nk_r255, nk_l255, nk_m255, nk_n255, nk_s255, nk_t255, nk_r256, nk_l256, nk_m256, nk_n256, nk_s256, nk_t256, Nat.add_zero, Nat.zero_add, Nat.mul_one, Nat.one_mul, Nat.mul_zero, Nat.zero_mul, Nat.sub_zero, Nat.reduceSub, Nat.reduceMul, Nat.add_sub_cancel, Bool.false_eq_true, Int.add_zero, Int.zero_add, Int.sub_zero, h, zd_6, kN_A, kN_B, kN_C, kN_L, kN_P, zkr_5_0, zkr_5_1, zkr_5_2, o12, ← hh1, e1] at hr
  subst hr
  refine ⟨_, _, _, rfl, by omega, by omega, fun i hi => ?_, ⟨0, 0, ?_⟩, ⟨fun _ => 0, ?_⟩, ⟨fun _ => 0, ?_⟩, ?_⟩
  · simp (disch := omega) only [zup_ne]
    rw [o1 i (by omega), hh1, zup_ne (by omega)]
  · rw [zup_same]; rfl
  · simp (disch := omega) only [zup_same, zup_ne]; rfl
  · simp (disch := omega) only [zup_same, zup_ne]; rfl
  · refine SW_fre (fun i hi => ?_) a1
    simp (disch := omega) only [zup_ne]
end
