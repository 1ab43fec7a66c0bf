/-! MATHS and SPECS: tables; what a look keeps -/
noncomputable def tbn (P : Nat → List Nat) (t : zE) : Nat → Nat
  | 0 => 0
  | k + 1 => if mb t (P k) = true then tbn P t k ||| 2 ^ k else tbn P t k
theorem tbn_bit {P : Nat → List Nat} {t : zE} : ∀ k i, (tbn P t k).testBit i = true ↔ (i < k ∧ mt t (P i))
  | 0, i => by
    show (0 : Nat).testBit i = true ↔ _
    rw [Nat.zero_testBit]
    exact ⟨fun h => (by cases h), fun h => (by cases h.1)⟩
  | k + 1, i => by
    have ih := tbn_bit (P := P) (t := t) k i
    have e : tbn P t (k + 1) = if mb t (P k) = true then tbn P t k ||| 2 ^ k else tbn P t k := rfl
    by_cases hm : mt t (P k)
    · rw [e, if_pos (mb_iff.mpr hm), Nat.testBit_or, Bool.or_eq_true, ih, Nat.testBit_two_pow, decide_eq_true_eq]
      constructor
      · rintro (⟨h1, h2⟩ | rfl)
        · exact ⟨by omega, h2⟩
        · exact ⟨by omega, hm⟩
      · rintro ⟨h1, h2⟩
        by_cases hk : k = i
        · exact Or.inr hk
        · exact Or.inl ⟨by omega, h2⟩
    · rw [e, if_neg (fun z => hm (mb_iff.mp z)), ih]
      constructor
      · rintro ⟨h1, h2⟩; exact ⟨by omega, h2⟩
      · rintro ⟨h1, h2⟩
        by_cases hk : k = i
        · subst hk; exact absurd h2 hm
        · exact ⟨by omega, h2⟩
theorem tbn_lt {P : Nat → List Nat} {t : zE} {np : Nat} (h : np ≤ 60) : tbn P t np < 1152921504606846976 := by
  apply Nat.lt_pow_two_of_testBit (n := 60)
  intro i hi
  rw [← Bool.not_eq_true, tbn_bit]
  omega
theorem tbn_of {P : Nat → List Nat} {t : zE} {np x : Nat} (h : ∀ i, x.testBit i = true ↔ (i < np ∧ mt t (P i))) : x = tbn P t np := by
  apply Nat.eq_of_testBit_eq
  intro i
  rw [Bool.eq_iff_iff, h, tbn_bit]
def mkT (T : Nat → zE) (k a b : Nat) : zE :=
  if k = 0 then .num 0 else if k = 1 then .num 1 else if k = 2 then .var a else if k = 3 then .neg (T a) else if k = 4 then .mulL 0 (T a) else if k = 5 then .sub (T a) (T b) else .add (T a) (T b)
theorem mkT_0 {T : Nat → zE} {a b : Nat} : mkT T 0 a b = .num 0 := rfl
theorem mkT_1 {T : Nat → zE} {a b : Nat} : mkT T 1 a b = .num 1 := rfl
theorem mkT_2 {T : Nat → zE} {a b : Nat} : mkT T 2 a b = .var a := rfl
theorem mkT_3 {T : Nat → zE} {a b : Nat} : mkT T 3 a b = .neg (T a) := rfl
theorem mkT_4 {T : Nat → zE} {a b : Nat} : mkT T 4 a b = .mulL 0 (T a) := rfl
theorem mkT_5 {T : Nat → zE} {a b : Nat} : mkT T 5 a b = .sub (T a) (T b) := rfl
theorem mkT_6 {T : Nat → zE} {a b : Nat} : mkT T 6 a b = .add (T a) (T b) := rfl
def rowk (f : zF) (P : Nat → List Nat) (np k : Nat) (t : zE) : Prop := ∃ (Q : Nat → Int) (R : Nat → Nat), f (19 + k) = some (kL 60 Q) ∧ (∀ i, i < 60 → Q i = (R i : Int) ∧ R i < 1152921504606846976) ∧ ∀ i, i < np → ∀ w, (R i).testBit w = true ↔ (w < np ∧ ∃ j, j < np ∧ P w = P i ++ P j ∧ mt t (P j))
def SO (f : zF) (P : Nat → List Nat) (np n : Nat) (E : Nat → Nat × Nat × Nat × Nat) (T : Nat → zE) : Prop := ∃ (KS FS SS NS TS SL WT : Nat → Int) (TB : Nat → Nat), sto f n KS FS SS NS TS (fun k => (TB k : Int)) ∧ f 18 = some (kR 7 120 (fun k => 19 + k)) ∧ f 139 = some (kA 256 SL) ∧ f 140 = some (kA 60 WT) ∧ (∀ k, k < 120 → ∃ Q, f (19 + k) = some (kL 60 Q)) ∧ (∀ k, k < n → rowk f P np k (T k)) ∧ SLP SL n TB ∧ n ≤ 120 ∧ ∀ k, k < n → KS k = ((E k).1 : Int) ∧ FS k = ((E k).2.1 : Int) ∧ SS k = ((E k).2.2.1 : Int) ∧ TS k = ((E k).2.2.2 : Int) ∧ NS k = (sz (T k) : Int) ∧ TB k = tbn P (T k) np
theorem SO_fre {a b np n : Nat} {f g : zF} {P : Nat → List Nat} {E : Nat → Nat × Nat × Nat × Nat} {T : Nat → zE} (h : fre a b f g) (hab : 140 < a ∨ b < 11) (hs : SO f P np n E T) : SO g P np n E T := by
  obtain ⟨KS, FS, SS, NS, TS, SL, WT, TB, ⟨s0, s1, s2, s3, s4, s5, s6⟩, h2, h3, h4, h5, h6, h7, h8, h9⟩ := hs
  refine ⟨KS, FS, SS, NS, TS, SL, WT, TB, ⟨(h _ (by omega)).trans s0, (h _ (by omega)).trans s1, (h _ (by omega)).trans s2, (h _ (by omega)).trans s3, (h _ (by omega)).trans s4, (h _ (by omega)).trans s5, (h _ (by omega)).trans s6⟩, (h _ (by omega)).trans h2, (h _ (by omega)).trans h3, (h _ (by omega)).trans h4, fun k hk => ?_, fun k hk => ?_, h7, h8, h9⟩
  · obtain ⟨Q, hq⟩ := h5 k hk
    exact ⟨Q, (h _ (by omega)).trans hq⟩
  · obtain ⟨Q, R, hq⟩ := h6 k hk
    exact ⟨Q, R, (h _ (by omega)).trans hq.1, hq.2⟩
section
variable {d np n cn : Nat} {f : zF} {m : zM} {P : Nat → List Nat} {E : Nat → Nat × Nat × Nat × Nat} {T : Nat → zE} {t : zE}
theorem SO_lt (hnp : np ≤ 60) {TB : Nat → Nat} (h9 : ∀ k, k < n → TB k = tbn P (T k) np) : ∀ k, k < n → TB k < 1152921504606846976 := fun k hk => by rw [h9 k hk]; exact tbn_lt hnp
theorem SLP_app {SL : Nat → Int} {TB : Nat → Nat} {s x j : Nat} (hn : n < 120) (h : SLP SL n TB) (hs256 : s < 256) (h0 : SL s = 0) (hj : j < 256) (hsj : s = (hs x + j) % 256) (hpr : ∀ i, i < j → SL ((hs x + i) % 256) ≠ 0) : SLP (zst SL s ((n : Int) + 1)) (n + 1) (zst TB n x) := by
  obtain ⟨p1, p2, p3⟩ := h
  refine ⟨fun s' hs' => ?_, fun N hN => ?_, fun k hk => ?_⟩
  · by_cases he : s' = s
    · subst he; rw [zst_same]; exact Or.inr ⟨n, by omega, rfl⟩
    · rw [zst_ne he]
      rcases p1 s' hs' with h1 | ⟨k, h1, h2⟩
      · exact Or.inl h1
      · exact Or.inr ⟨k, by omega, h2⟩
  · have h1 := p2 N hN
    have h2 := (cz_set (SL := SL) (s := s) (v := (n : Int) + 1) h0 (by omega) N).1 (by omega)
    omega
  · by_cases hkn : k = n
    · subst hkn
      rw [zst_same]
      refine ⟨j, hj, by rw [← hsj, zst_same], fun i hi => ?_⟩
      by_cases he : (hs x + i) % 256 = s
      · exact absurd (by rw [he]; exact h0) (hpr i hi)
      · rw [zst_ne he]; exact hpr i hi
    · rw [zst_ne hkn]
      obtain ⟨j2, h1, h2, h3⟩ := p3 k (by omega)
      refine ⟨j2, h1, ?_, fun i hi => ?_⟩
      · rw [zst_ne (fun z => by rw [z, h0] at h2; omega)]; exact h2
      · by_cases he : (hs (TB k) + i) % 256 = s
        · exact absurd (by rw [he]; exact h0) (h3 i hi)
        · rw [zst_ne he]; exact h3 i hi
theorem s_sapp {kd a b pr : Nat} (hd : 3 ≤ d) (h : SO f P np n E T) (hn : n < 120) (hnp : np ≤ 60) (hP : spc P np) (hcu : CUD f P np cn (fun w _ => w < np)) (hcn : cn ≤ 420) (hkd : kd < 7) (ha : a < 120) (hb : b < 120) (ha2 : 3 ≤ kd → a < n) (hb2 : 5 ≤ kd → b < n) (hpr : pr ≤ 60) (ht : t = mkT T kd a b) (ht60 : sz t ≤ 60) (hnew : ∀ k, k < n → tbn P (T k) np ≠ tbn P t np) : ∃ f', zrun zTb d 56 [.ref 11, .int (I kd), .int (I a), .int (I b), .int (I pr), .long (J (tbn P t np : Nat))] f m = some (.inl none, f', m) ∧ SO f' P np (n + 1) (zst E n (kd, a, b, pr)) (zst T n t) ∧ fre 11 140 f f' := by
  obtain ⟨d, rfl⟩ : ∃ e, d = e + 1 := ⟨d - 1, by omega⟩
  obtain ⟨KS, FS, SS, NS, TS, SL, WT, TB, hsto, h18, h139, h140, hrw, hrk, hSL, -, hE⟩ := h
  have hTBt := fun k hk => (hE k hk).2.2.2.2.2
  have hTBl := SO_lt hnp hTBt
  have hxl := tbn_lt (P := P) (t := t) hnp
  obtain ⟨s, q1, q2, q3, q4, -⟩ := s_slotOf (d := d) (m := m) (by omega) (by omega) hsto h139 hSL hxl hTBl
  have h0 : SL s = 0 := Classical.byContradiction (fun z => by
    obtain ⟨k, g1, -, g2⟩ := q4 z
    exact hnew k g1 ((hTBt k g1).symm.trans g2))
  obtain ⟨j, j1, j2, j3⟩ := q3 h0
  have hSL2 := SLP_app (x := tbn P t np) hn hSL q1 h0 j1 j2 j3
  clear q3 q4
  have e2 := s_X6_isFull (d := d) (m := m) (by omega) hsto (by omega)
  obtain ⟨s0, s1, s2, s3, s4, s5, s6⟩ := hsto
  let g5 := zup (zup (zup (zup (zup f 12 (kA 120 (zst KS n (kd : Int)))) 13 (kA 120 (zst FS n (a : Int)))) 14 (kA 120 (zst SS n (b : Int)))) 16 (kA 120 (zst TS n (pr : Int)))) 17 (kL 120 (fun k => ((zst TB n (tbn P t np) k : Nat) : Int)))
  have hg5 : sto g5 n (zst KS n (kd : Int)) (zst FS n (a : Int)) (zst SS n (b : Int)) NS (zst TS n (pr : Int)) (fun k => ((zst TB n (tbn P t np) k : Nat) : Int)) := by
    refine ⟨?_, ?_, ?_, ?_, ?_, ?_, ?_⟩
    all_goals simp (disch := omega) only [g5, zup_same, zup_ne, s0, s4]
  have e3 := s_X6_nodesOf (d := d) (m := m) (j := (a : Int)) (by omega) hg5 (by omega) (by omega) (by omega)
  have e4 := s_X6_nodesOf (d := d) (m := m) (j := (b : Int)) (by omega) hg5 (by omega) (by omega) (by omega)
  obtain ⟨Q, hQ⟩ := hrw n hn
  have hcu6 : CUD (zup g5 15 (kA 120 (zst NS n (sz t : Int)))) P np cn (fun w _ => w < np) := by
    obtain ⟨FR, BK, WH, c1, c2, c3, c4, c5⟩ := hcu
    exact ⟨FR, BK, WH, by simp (disch := omega) only [g5, zup_ne, c1], by simp (disch := omega) only [g5, zup_ne, c2], by simp (disch := omega) only [g5, zup_ne, c3], by simp (disch := omega) only [g5, zup_ne, c4], c5⟩
  have c141 : ∃ v, f 141 = some (kO 0 v) := by
    obtain ⟨FR, BK, WH, c1, -⟩ := hcu
    exact ⟨_, c1⟩
  obtain ⟨v141, c141⟩ := c141
  obtain ⟨Q', R, e5, r1, r2⟩ := s_fillRow (d := d) (m := m) (r := 19 + n) (f := zup g5 15 (kA 120 (zst NS n (sz t : Int)))) (Q := Q) (by omega) (by omega) hcu6 hcn hnp hP (by simp (disch := omega) only [g5, zup_ne, hQ]) hxl
  have hfin : zrun zTb (d + 1) 56 [.ref 11, .int (I kd), .int (I a), .int (I b), .int (I pr), .long (J (tbn P t np : Nat))] f m = some (.inl none, zup (zup (zup (zup g5 15 (kA 120 (zst NS n (sz t : Int)))) (19 + n) (kL 60 Q')) 11 (kO 6 [.ref 12, .ref 13, .ref 14, .ref 15, .ref 16, .ref 17, .ref 18, .ref 139, .ref 140, .ref 141, .int (I (n + 1 : Nat))])) 139 (kA 256 (zst SL s ((n + 1 : Nat) : Int))), m) := by
    rw [zs_X6_append]
    by_cases hk3 : kd < 3
    · have hsz : sz t = 1 := by
        rw [ht]
        rcases (show kd = 0 ∨ kd = 1 ∨ kd = 2 by omega) with rfl | rfl | rfl <;> rfl
      rw [hsz] at e5 ⊢
      simp (disch := omega) only [ze_X6_append_0, ze_X6_append_6, ze_X6_append_12, ze_X6_append_15, ze_X6_append_20, ze_X6_append_26, ze_X6_append_27, ze_X6_append_30, ze_X6_append_31, ze_X6_append_35, ze_X6_append_39, ze_X6_append_41, ze_X6_append_45, ze_X6_append_49, ze_X6_append_51, ze_X6_append_55, ze_X6_append_59, ze_X6_append_61, ze_X6_append_65, ze_X6_append_69, ze_X6_append_72, ze_X6_append_76, ze_X6_append_80, ze_X6_append_83, ze_X6_append_87, ze_X6_append_91, ze_X6_append_97, ze_X6_append_102, ze_X6_append_105, ze_X6_append_112, ze_X6_append_117, ze_X6_append_120, ze_X6_append_123, ze_X6_append_127, ze_X6_append_133, ze_X6_append_137, ze_X6_append_138, ze_X6_append_141, ze_X6_append_146, ze_X6_append_151, ze_X6_append_155, ze_X6_append_161, ze_X6_append_162, zcal_x, zfh_nil, zfh_cons, zset_0, zset_1, zset_s, zcal_v, zcal_n, zcalI_n, zco_O, zcf_O, zcs_O, zisc_O, zr8_A, zr8_S, zri_A, zri_B, zri_C, zrl_L, zrd_D, zrs_R, zgi_A, zgi_S, zgi_B, zgi_C, zgl_L, zgd_D, zisa_A, zisa_S, zisa_L, zisa_B, zisa_R, zln_A, zln_S, zln_L, zln_B, zln_R, zwi_A, zwl_L, zwd_D, zclr_i, zclr_r, zclr_l, zclr_d, zclr_n, zok_i, zok_l, zok_b0, zok_b1, I_add, I_sub, I_mul, I_neg, J_add, J_sub, J_mul, J_toI, I_ofNat, I_cl, I_J, I_ne2, zup_same, zup_up, zup_ne, zc1_eqB, zc1_neB, zret_b, zret_b0, zret_b1, List.getD_cons_zero, List.getD_cons_succ, List.length_cons, List.length_nil, List.set_cons_zero, List.set_cons_succ, Option.toList, List.cons_append, List.nil_append, Int.cast_ofNat_Int, decide_eq_true_eq, Bool.and_eq_true, and_self, true_and, and_true, if_true, if_false, not_true_eq_false, not_false_eq_true, ↓reduceIte, Nat.reduceAdd, Nat.reduceLT, Nat.reduceLeDiff, Nat.reduceEqDiff, Int.reduceAdd, Int.reduceSub, Int.reduceMul, Int.reduceNeg, Int.reduceLT, Int.reduceLE, Int.reduceEq, Int.reduceToNat, Int.toNat_natCast, Nat.lt_add_one, Nat.zero_lt_succ, q1_eq_t, q1_eq_f, q2_eq_t, q2_eq_f, ql_eq_t, ql_eq_f, q1_ne_t, q1_ne_f, q2_ne_t, q2_ne_f, ql_ne_t, ql_ne_f, q1_lt_t, q1_lt_f, q2_lt_t, q2_lt_f, ql_lt_t, ql_lt_f, q1_ge_t, q1_ge_f, q2_ge_t, q2_ge_f, ql_ge_t, ql_ge_f, q1_gt_t, q1_gt_f, q2_gt_t, q2_gt_f, ql_gt_t, ql_gt_f, q1_le_t, q1_le_f, q2_le_t, q2_le_f, ql_le_t, ql_le_f, zib_t, qb_t, qb_f, nk_add, nk_mul, nk_sub, nk_d1, nk_d0, nk_toNat, nk_r1, nk_l1, nk_m1, nk_n1, nk_s1, nk_t1, nk_r2, nk_l2, nk_m2, nk_n2, nk_s2, nk_t2, nk_r3, nk_l3, nk_m3, nk_n3, nk_s3, nk_t3, nk_r4, nk_l4, nk_m4, nk_n4, nk_s4, nk_t4, nk_r6, nk_l6, nk_m6, nk_n6, nk_s6, nk_t6, nk_r7, nk_l7, nk_m7, nk_n7, nk_s7, nk_t7, nk_r8, nk_l8, nk_m8, nk_n8, nk_s8, nk_t8, nk_r12, nk_l12, nk_m12, nk_n12, nk_s12, nk_t12, nk_r31, nk_l31, nk_m31, nk_n31, nk_s31, nk_t31, nk_r32, nk_l32, nk_m32, nk_n32, nk_s32, nk_t32, nk_r59, nk_l59, nk_m59, nk_n59, nk_s59, nk_t59, nk_r60, nk_l60, nk_m60, nk_n60, nk_s60, nk_t60, nk_r96, nk_l96, nk_m96, nk_n96, nk_s96, nk_t96, nk_r97, nk_l97, nk_m97, nk_n97, nk_s97, nk_t97, nk_r120, nk_l120, nk_m120, nk_n120, nk_s120, nk_t120, nk_r240, nk_l240, nk_m240, nk_n240, nk_s240, nk_t240, nk_r255, nk_l255, nk_m255, nk_n255, nk_s255, nk_t255, nk_r256, nk_l256, nk_m256, nk_n256, nk_s256, nk_t256, Nat.add_zero, Nat.zero_add, Nat.mul_one, Nat.one_mul, Nat.mul_zero, Nat.zero_mul, Nat.sub_zero, Nat.reduceSub, Nat.reduceMul, Nat.add_sub_cancel, Bool.false_eq_true, Int.add_zero, Int.zero_add, Int.sub_zero, e2, q2, s0, s1, s2, s3, s4, s5, s6, h18, h139, zst_cast, zrq_R, zgq_R, zfty_6_10, c141] at e5 ⊢
      simp (disch := omega) only [ze_X6_append_0, ze_X6_append_6, ze_X6_append_12, ze_X6_append_15, ze_X6_append_20, ze_X6_append_26, ze_X6_append_27, ze_X6_append_30, ze_X6_append_31, ze_X6_append_35, ze_X6_append_39, ze_X6_append_41, ze_X6_append_45, ze_X6_append_49, ze_X6_append_51, ze_X6_append_55, ze_X6_append_59, ze_X6_append_61, ze_X6_append_65, ze_X6_append_69, ze_X6_append_72, ze_X6_append_76, ze_X6_append_80, ze_X6_append_83, ze_X6_append_87, ze_X6_append_91, ze_X6_append_97, ze_X6_append_102, ze_X6_append_105, ze_X6_append_112, ze_X6_append_117, ze_X6_append_120, ze_X6_append_123, ze_X6_append_127, ze_X6_append_133, ze_X6_append_137, ze_X6_append_138, ze_X6_append_141, ze_X6_append_146, ze_X6_append_151, ze_X6_append_155, ze_X6_append_161, ze_X6_append_162, zcal_x, zfh_nil, zfh_cons, zset_0, zset_1, zset_s, zcal_v, zcal_n, zcalI_n, zco_O, zcf_O, zcs_O, zisc_O, zr8_A, zr8_S, zri_A, zri_B, zri_C, zrl_L, zrd_D, zrs_R, zgi_A, zgi_S, zgi_B, zgi_C, zgl_L, zgd_D, zisa_A, zisa_S, zisa_L, zisa_B, zisa_R, zln_A, zln_S, zln_L, zln_B, zln_R, zwi_A, zwl_L, zwd_D, zclr_i, zclr_r, zclr_l, zclr_d, zclr_n, zok_i, zok_l, zok_b0, zok_b1, I_add, I_sub, I_mul, I_neg, J_add, J_sub, J_mul, J_toI, I_ofNat, I_cl, I_J, I_ne2, zup_same, zup_up, zup_ne, zc1_eqB, zc1_neB, zret_b, zret_b0, zret_b1, List.getD_cons_zero, List.getD_cons_succ, List.length_cons, List.length_nil, List.set_cons_zero, List.set_cons_succ, Option.toList, List.cons_append, List.nil_append, Int.cast_ofNat_Int, decide_eq_true_eq, Bool.and_eq_true, and_self, true_and, and_true, if_true, if_false, not_true_eq_false, not_false_eq_true, ↓reduceIte, Nat.reduceAdd, Nat.reduceLT, Nat.reduceLeDiff, Nat.reduceEqDiff, Int.reduceAdd, Int.reduceSub, Int.reduceMul, Int.reduceNeg, Int.reduceLT, Int.reduceLE, Int.reduceEq, Int.reduceToNat, Int.toNat_natCast, Nat.lt_add_one, Nat.zero_lt_succ, q1_eq_t, q1_eq_f, q2_eq_t, q2_eq_f, ql_eq_t, ql_eq_f, q1_ne_t, q1_ne_f, q2_ne_t, q2_ne_f, ql_ne_t, ql_ne_f, q1_lt_t, q1_lt_f, q2_lt_t, q2_lt_f, ql_lt_t, ql_lt_f, q1_ge_t, q1_ge_f, q2_ge_t, q2_ge_f, ql_ge_t, ql_ge_f, q1_gt_t, q1_gt_f, q2_gt_t, q2_gt_f, ql_gt_t, ql_gt_f, q1_le_t, q1_le_f, q2_le_t, q2_le_f, ql_le_t, ql_le_f, zib_t, qb_t, qb_f, nk_add, nk_mul, nk_sub, nk_d1, nk_d0, nk_toNat, nk_r1, nk_l1, nk_m1, nk_n1, nk_s1, nk_t1, nk_r2, nk_l2, nk_m2, nk_n2, nk_s2, nk_t2, nk_r3, nk_l3, nk_m3, nk_n3, nk_s3, nk_t3, nk_r4, nk_l4, nk_m4, nk_n4, nk_s4, nk_t4, nk_r6, nk_l6, nk_m6, nk_n6, nk_s6, nk_t6, nk_r7, nk_l7, nk_m7, nk_n7, nk_s7, nk_t7, nk_r8, nk_l8, nk_m8, nk_n8, nk_s8, nk_t8, nk_r12, nk_l12, nk_m12, nk_n12, nk_s12, nk_t12, nk_r31, nk_l31, nk_m31, nk_n31, nk_s31, nk_t31, nk_r32, nk_l32, nk_m32, nk_n32, nk_s32, nk_t32, nk_r59, nk_l59, nk_m59, nk_n59, nk_s59, nk_t59, nk_r60, nk_l60, nk_m60, nk_n60, nk_s60, nk_t60, nk_r96, nk_l96, nk_m96, nk_n96, nk_s96, nk_t96, nk_r97, nk_l97, nk_m97, nk_n97, nk_s97, nk_t97, nk_r120, nk_l120, nk_m120, nk_n120, nk_s120, nk_t120, nk_r240, nk_l240, nk_m240, nk_n240, nk_s240, nk_t240, nk_r255, nk_l255, nk_m255, nk_n255, nk_s255, nk_t255, nk_r256, nk_l256, nk_m256, nk_n256, nk_s256, nk_t256, Nat.add_zero, Nat.zero_add, Nat.mul_one, Nat.one_mul, Nat.mul_zero, Nat.zero_mul, Nat.sub_zero, Nat.reduceSub, Nat.reduceMul, Nat.add_sub_cancel, Bool.false_eq_true, Int.add_zero, Int.zero_add, Int.sub_zero, e2, q2, s0, s1, s2, s3, s4, s5, s6, h18, h139, zst_cast, zrq_R, zgq_R, zfty_6_10, c141, g5, e5]
    · have han := ha2 (by omega)
      have haE := (hE a han).2.2.2.2.1
      rw [if_pos (by omega), Int.toNat_natCast, haE] at e3
      by_cases hk5 : kd < 5
      · have hsz : sz t = sz (T a) + 1 := by
          rw [ht]
          rcases (show kd = 3 ∨ kd = 4 by omega) with rfl | rfl <;> rfl
        have hsz' : 1 + sz (T a) = sz t := by omega
        simp (disch := omega) only [ze_X6_append_0, ze_X6_append_6, ze_X6_append_12, ze_X6_append_15, ze_X6_append_20, ze_X6_append_26, ze_X6_append_27, ze_X6_append_30, ze_X6_append_31, ze_X6_append_35, ze_X6_append_39, ze_X6_append_41, ze_X6_append_45, ze_X6_append_49, ze_X6_append_51, ze_X6_append_55, ze_X6_append_59, ze_X6_append_61, ze_X6_append_65, ze_X6_append_69, ze_X6_append_72, ze_X6_append_76, ze_X6_append_80, ze_X6_append_83, ze_X6_append_87, ze_X6_append_91, ze_X6_append_97, ze_X6_append_102, ze_X6_append_105, ze_X6_append_112, ze_X6_append_117, ze_X6_append_120, ze_X6_append_123, ze_X6_append_127, ze_X6_append_133, ze_X6_append_137, ze_X6_append_138, ze_X6_append_141, ze_X6_append_146, ze_X6_append_151, ze_X6_append_155, ze_X6_append_161, ze_X6_append_162, zcal_x, zfh_nil, zfh_cons, zset_0, zset_1, zset_s, zcal_v, zcal_n, zcalI_n, zco_O, zcf_O, zcs_O, zisc_O, zr8_A, zr8_S, zri_A, zri_B, zri_C, zrl_L, zrd_D, zrs_R, zgi_A, zgi_S, zgi_B, zgi_C, zgl_L, zgd_D, zisa_A, zisa_S, zisa_L, zisa_B, zisa_R, zln_A, zln_S, zln_L, zln_B, zln_R, zwi_A, zwl_L, zwd_D, zclr_i, zclr_r, zclr_l, zclr_d, zclr_n, zok_i, zok_l, zok_b0, zok_b1, I_add, I_sub, I_mul, I_neg, J_add, J_sub, J_mul, J_toI, I_ofNat, I_cl, I_J, I_ne2, zup_same, zup_up, zup_ne, zc1_eqB, zc1_neB, zret_b, zret_b0, zret_b1, List.getD_cons_zero, List.getD_cons_succ, List.length_cons, List.length_nil, List.set_cons_zero, List.set_cons_succ, Option.toList, List.cons_append, List.nil_append, Int.cast_ofNat_Int, decide_eq_true_eq, Bool.and_eq_true, and_self, true_and, and_true, if_true, if_false, not_true_eq_false, not_false_eq_true, ↓reduceIte, Nat.reduceAdd, Nat.reduceLT, Nat.reduceLeDiff, Nat.reduceEqDiff, Int.reduceAdd, Int.reduceSub, Int.reduceMul, Int.reduceNeg, Int.reduceLT, Int.reduceLE, Int.reduceEq, Int.reduceToNat, Int.toNat_natCast, Nat.lt_add_one, Nat.zero_lt_succ, q1_eq_t, q1_eq_f, q2_eq_t, q2_eq_f, ql_eq_t, ql_eq_f, q1_ne_t, q1_ne_f, q2_ne_t, q2_ne_f, ql_ne_t, ql_ne_f, q1_lt_t, q1_lt_f, q2_lt_t, q2_lt_f, ql_lt_t, ql_lt_f, q1_ge_t, q1_ge_f, q2_ge_t, q2_ge_f, ql_ge_t, ql_ge_f, q1_gt_t, q1_gt_f, q2_gt_t, q2_gt_f, ql_gt_t, ql_gt_f, q1_le_t, q1_le_f, q2_le_t, q2_le_f, ql_le_t, ql_le_f, zib_t, qb_t, qb_f, nk_add, nk_mul, nk_sub, nk_d1, nk_d0, nk_toNat, nk_r1, nk_l1, nk_m1, nk_n1, nk_s1, nk_t1, nk_r2, nk_l2, nk_m2, nk_n2, nk_s2, nk_t2, nk_r3, nk_l3, nk_m3, nk_n3, nk_s3, nk_t3, nk_r4, nk_l4, nk_m4, nk_n4, nk_s4, nk_t4, nk_r6, nk_l6, nk_m6, nk_n6, nk_s6, nk_t6, nk_r7, nk_l7, nk_m7, nk_n7, nk_s7, nk_t7, nk_r8, nk_l8, nk_m8, nk_n8, nk_s8, nk_t8, nk_r12, nk_l12, nk_m12, nk_n12, nk_s12, nk_t12, nk_r31, nk_l31, nk_m31, nk_n31, nk_s31, nk_t31, nk_r32, nk_l32, nk_m32, nk_n32, nk_s32, nk_t32, nk_r59, nk_l59, nk_m59, nk_n59, nk_s59, nk_t59, nk_r60, nk_l60, nk_m60, nk_n60, nk_s60, nk_t60, nk_r96, nk_l96, nk_m96, nk_n96, nk_s96, nk_t96, nk_r97, nk_l97, nk_m97, nk_n97, nk_s97, nk_t97, nk_r120, nk_l120, nk_m120, nk_n120, nk_s120, nk_t120, nk_r240, nk_l240, nk_m240, nk_n240, nk_s240, nk_t240, nk_r255, nk_l255, nk_m255, nk_n255, nk_s255, nk_t255, nk_r256, nk_l256, nk_m256, nk_n256, nk_s256, nk_t256, Nat.add_zero, Nat.zero_add, Nat.mul_one, Nat.one_mul, Nat.mul_zero, Nat.zero_mul, Nat.sub_zero, Nat.reduceSub, Nat.reduceMul, Nat.add_sub_cancel, Bool.false_eq_true, Int.add_zero, Int.zero_add, Int.sub_zero, e2, q2, s0, s1, s2, s3, s4, s5, s6, h18, h139, zst_cast, zrq_R, zgq_R, zfty_6_10, c141, hsz', g5] at e3 e5 ⊢
        simp (disch := omega) only [ze_X6_append_0, ze_X6_append_6, ze_X6_append_12, ze_X6_append_15, ze_X6_append_20, ze_X6_append_26, ze_X6_append_27, ze_X6_append_30, ze_X6_append_31, ze_X6_append_35, ze_X6_append_39, ze_X6_append_41, ze_X6_append_45, ze_X6_append_49, ze_X6_append_51, ze_X6_append_55, ze_X6_append_59, ze_X6_append_61, ze_X6_append_65, ze_X6_append_69, ze_X6_append_72, ze_X6_append_76, ze_X6_append_80, ze_X6_append_83, ze_X6_append_87, ze_X6_append_91, ze_X6_append_97, ze_X6_append_102, ze_X6_append_105, ze_X6_append_112, ze_X6_append_117, ze_X6_append_120, ze_X6_append_123, ze_X6_append_127, ze_X6_append_133, ze_X6_append_137, ze_X6_append_138, ze_X6_append_141, ze_X6_append_146, ze_X6_append_151, ze_X6_append_155, ze_X6_append_161, ze_X6_append_162, zcal_x, zfh_nil, zfh_cons, zset_0, zset_1, zset_s, zcal_v, zcal_n, zcalI_n, zco_O, zcf_O, zcs_O, zisc_O, zr8_A, zr8_S, zri_A, zri_B, zri_C, zrl_L, zrd_D, zrs_R, zgi_A, zgi_S, zgi_B, zgi_C, zgl_L, zgd_D, zisa_A, zisa_S, zisa_L, zisa_B, zisa_R, zln_A, zln_S, zln_L, zln_B, zln_R, zwi_A, zwl_L, zwd_D, zclr_i, zclr_r, zclr_l, zclr_d, zclr_n, zok_i, zok_l, zok_b0, zok_b1, I_add, I_sub, I_mul, I_neg, J_add, J_sub, J_mul, J_toI, I_ofNat, I_cl, I_J, I_ne2, zup_same, zup_up, zup_ne, zc1_eqB, zc1_neB, zret_b, zret_b0, zret_b1, List.getD_cons_zero, List.getD_cons_succ, List.length_cons, List.length_nil, List.set_cons_zero, List.set_cons_succ, Option.toList, List.cons_append, List.nil_append, Int.cast_ofNat_Int, decide_eq_true_eq, Bool.and_eq_true, and_self, true_and, and_true, if_true, if_false, not_true_eq_false, not_false_eq_true, ↓reduceIte, Nat.reduceAdd, Nat.reduceLT, Nat.reduceLeDiff, Nat.reduceEqDiff, Int.reduceAdd, Int.reduceSub, Int.reduceMul, Int.reduceNeg, Int.reduceLT, Int.reduceLE, Int.reduceEq, Int.reduceToNat, Int.toNat_natCast, Nat.lt_add_one, Nat.zero_lt_succ, q1_eq_t, q1_eq_f, q2_eq_t, q2_eq_f, ql_eq_t, ql_eq_f, q1_ne_t, q1_ne_f, q2_ne_t, q2_ne_f, ql_ne_t, ql_ne_f, q1_lt_t, q1_lt_f, q2_lt_t, q2_lt_f, ql_lt_t, ql_lt_f, q1_ge_t, q1_ge_f, q2_ge_t, q2_ge_f, ql_ge_t, ql_ge_f, q1_gt_t, q1_gt_f, q2_gt_t, q2_gt_f, ql_gt_t, ql_gt_f, q1_le_t, q1_le_f, q2_le_t, q2_le_f, ql_le_t, ql_le_f, zib_t, qb_t, qb_f, nk_add, nk_mul, nk_sub, nk_d1, nk_d0, nk_toNat, nk_r1, nk_l1, nk_m1, nk_n1, nk_s1, nk_t1, nk_r2, nk_l2, nk_m2, nk_n2, nk_s2, nk_t2, nk_r3, nk_l3, nk_m3, nk_n3, nk_s3, nk_t3, nk_r4, nk_l4, nk_m4, nk_n4, nk_s4, nk_t4, nk_r6, nk_l6, nk_m6, nk_n6, nk_s6, nk_t6, nk_r7, nk_l7, nk_m7, nk_n7, nk_s7, nk_t7, nk_r8, nk_l8, nk_m8, nk_n8, nk_s8, nk_t8, nk_r12, nk_l12, nk_m12, nk_n12, nk_s12, nk_t12, nk_r31, nk_l31, nk_m31, nk_n31, nk_s31, nk_t31, nk_r32, nk_l32, nk_m32, nk_n32, nk_s32, nk_t32, nk_r59, nk_l59, nk_m59, nk_n59, nk_s59, nk_t59, nk_r60, nk_l60, nk_m60, nk_n60, nk_s60, nk_t60, nk_r96, nk_l96, nk_m96, nk_n96, nk_s96, nk_t96, nk_r97, nk_l97, nk_m97, nk_n97, nk_s97, nk_t97, nk_r120, nk_l120, nk_m120, nk_n120, nk_s120, nk_t120, nk_r240, nk_l240, nk_m240, nk_n240, nk_s240, nk_t240, nk_r255, nk_l255, nk_m255, nk_n255, nk_s255, nk_t255, nk_r256, nk_l256, nk_m256, nk_n256, nk_s256, nk_t256, Nat.add_zero, Nat.zero_add, Nat.mul_one, Nat.one_mul, Nat.mul_zero, Nat.zero_mul, Nat.sub_zero, Nat.reduceSub, Nat.reduceMul, Nat.add_sub_cancel, Bool.false_eq_true, Int.add_zero, Int.zero_add, Int.sub_zero, e2, q2, s0, s1, s2, s3, s4, s5, s6, h18, h139, zst_cast, zrq_R, zgq_R, zfty_6_10, c141, hsz', e3, e5]
      · have hbn := hb2 (by omega)
        have hbE := (hE b hbn).2.2.2.2.1
        rw [if_pos (by omega), Int.toNat_natCast, hbE] at e4
        have hsz : sz t = sz (T a) + sz (T b) + 1 := by
          rw [ht]
          rcases (show kd = 5 ∨ kd = 6 by omega) with rfl | rfl <;> rfl
        have hsz' : 1 + sz (T a) + sz (T b) = sz t := by omega
        simp (disch := omega) only [ze_X6_append_0, ze_X6_append_6, ze_X6_append_12, ze_X6_append_15, ze_X6_append_20, ze_X6_append_26, ze_X6_append_27, ze_X6_append_30, ze_X6_append_31, ze_X6_append_35, ze_X6_append_39, ze_X6_append_41, ze_X6_append_45, ze_X6_append_49, ze_X6_append_51, ze_X6_append_55, ze_X6_append_59, ze_X6_append_61, ze_X6_append_65, ze_X6_append_69, ze_X6_append_72, ze_X6_append_76, ze_X6_append_80, ze_X6_append_83, ze_X6_append_87, ze_X6_append_91, ze_X6_append_97, ze_X6_append_102, ze_X6_append_105, ze_X6_append_112, ze_X6_append_117, ze_X6_append_120, ze_X6_append_123, ze_X6_append_127, ze_X6_append_133, ze_X6_append_137, ze_X6_append_138, ze_X6_append_141, ze_X6_append_146, ze_X6_append_151, ze_X6_append_155, ze_X6_append_161, ze_X6_append_162, zcal_x, zfh_nil, zfh_cons, zset_0, zset_1, zset_s, zcal_v, zcal_n, zcalI_n, zco_O, zcf_O, zcs_O, zisc_O, zr8_A, zr8_S, zri_A, zri_B, zri_C, zrl_L, zrd_D, zrs_R, zgi_A, zgi_S, zgi_B, zgi_C, zgl_L, zgd_D, zisa_A, zisa_S, zisa_L, zisa_B, zisa_R, zln_A, zln_S, zln_L, zln_B, zln_R, zwi_A, zwl_L, zwd_D, zclr_i, zclr_r, zclr_l, zclr_d, zclr_n, zok_i, zok_l, zok_b0, zok_b1, I_add, I_sub, I_mul, I_neg, J_add, J_sub, J_mul, J_toI, I_ofNat, I_cl, I_J, I_ne2, zup_same, zup_up, zup_ne, zc1_eqB, zc1_neB, zret_b, zret_b0, zret_b1, List.getD_cons_zero, List.getD_cons_succ, List.length_cons, List.length_nil, List.set_cons_zero, List.set_cons_succ, Option.toList, List.cons_append, List.nil_append, Int.cast_ofNat_Int, decide_eq_true_eq, Bool.and_eq_true, and_self, true_and, and_true, if_true, if_false, not_true_eq_false, not_false_eq_true, ↓reduceIte, Nat.reduceAdd, Nat.reduceLT, Nat.reduceLeDiff, Nat.reduceEqDiff, Int.reduceAdd, Int.reduceSub, Int.reduceMul, Int.reduceNeg, Int.reduceLT, Int.reduceLE, Int.reduceEq, Int.reduceToNat, Int.toNat_natCast, Nat.lt_add_one, Nat.zero_lt_succ, q1_eq_t, q1_eq_f, q2_eq_t, q2_eq_f, ql_eq_t, ql_eq_f, q1_ne_t, q1_ne_f, q2_ne_t, q2_ne_f, ql_ne_t, ql_ne_f, q1_lt_t, q1_lt_f, q2_lt_t, q2_lt_f, ql_lt_t, ql_lt_f, q1_ge_t, q1_ge_f, q2_ge_t, q2_ge_f, ql_ge_t, ql_ge_f, q1_gt_t, q1_gt_f, q2_gt_t, q2_gt_f, ql_gt_t, ql_gt_f, q1_le_t, q1_le_f, q2_le_t, q2_le_f, ql_le_t, ql_le_f, zib_t, qb_t, qb_f, nk_add, nk_mul, nk_sub, nk_d1, nk_d0, nk_toNat, nk_r1, nk_l1, nk_m1, nk_n1, nk_s1, nk_t1, nk_r2, nk_l2, nk_m2, nk_n2, nk_s2, nk_t2, nk_r3, nk_l3, nk_m3, nk_n3, nk_s3, nk_t3, nk_r4, nk_l4, nk_m4, nk_n4, nk_s4, nk_t4, nk_r6, nk_l6, nk_m6, nk_n6, nk_s6, nk_t6, nk_r7, nk_l7, nk_m7, nk_n7, nk_s7, nk_t7, nk_r8, nk_l8, nk_m8, nk_n8, nk_s8, nk_t8, nk_r12, nk_l12, nk_m12, nk_n12, nk_s12, nk_t12, nk_r31, nk_l31, nk_m31, nk_n31, nk_s31, nk_t31, nk_r32, nk_l32, nk_m32, nk_n32, nk_s32, nk_t32, nk_r59, nk_l59, nk_m59, nk_n59, nk_s59, nk_t59, nk_r60, nk_l60, nk_m60, nk_n60, nk_s60, nk_t60, nk_r96, nk_l96, nk_m96, nk_n96, nk_s96, nk_t96, nk_r97, nk_l97, nk_m97, nk_n97, nk_s97, nk_t97, nk_r120, nk_l120, nk_m120, nk_n120, nk_s120, nk_t120, nk_r240, nk_l240, nk_m240, nk_n240, nk_s240, nk_t240, nk_r255, nk_l255, nk_m255, nk_n255, nk_s255, nk_t255, nk_r256, nk_l256, nk_m256, nk_n256, nk_s256, nk_t256, Nat.add_zero, Nat.zero_add, Nat.mul_one, Nat.one_mul, Nat.mul_zero, Nat.zero_mul, Nat.sub_zero, Nat.reduceSub, Nat.reduceMul, Nat.add_sub_cancel, Bool.false_eq_true, Int.add_zero, Int.zero_add, Int.sub_zero, e2, q2, s0, s1, s2, s3, s4, s5, s6, h18, h139, zst_cast, zrq_R, zgq_R, zfty_6_10, c141, hsz', g5] at e3 e4 e5 ⊢
        simp (disch := omega) only [ze_X6_append_0, ze_X6_append_6, ze_X6_append_12, ze_X6_append_15, ze_X6_append_20, ze_X6_append_26, ze_X6_append_27, ze_X6_append_30, ze_X6_append_31, ze_X6_append_35, ze_X6_append_39, ze_X6_append_41, ze_X6_append_45, ze_X6_append_49, ze_X6_append_51, ze_X6_append_55, ze_X6_append_59, ze_X6_append_61, ze_X6_append_65, ze_X6_append_69, ze_X6_append_72, ze_X6_append_76, ze_X6_append_80, ze_X6_append_83, ze_X6_append_87, ze_X6_append_91, ze_X6_append_97, ze_X6_append_102, ze_X6_append_105, ze_X6_append_112, ze_X6_append_117, ze_X6_append_120, ze_X6_append_123, ze_X6_append_127, ze_X6_append_133, ze_X6_append_137, ze_X6_append_138, ze_X6_append_141, ze_X6_append_146, ze_X6_append_151, ze_X6_append_155, ze_X6_append_161, ze_X6_append_162, zcal_x, zfh_nil, zfh_cons, zset_0, zset_1, zset_s, zcal_v, zcal_n, zcalI_n, zco_O, zcf_O, zcs_O, zisc_O, zr8_A, zr8_S, zri_A, zri_B, zri_C, zrl_L, zrd_D, zrs_R, zgi_A, zgi_S, zgi_B, zgi_C, zgl_L, zgd_D, zisa_A, zisa_S, zisa_L, zisa_B, zisa_R, zln_A, zln_S, zln_L, zln_B, zln_R, zwi_A, zwl_L, zwd_D, zclr_i, zclr_r, zclr_l, zclr_d, zclr_n, zok_i, zok_l, zok_b0, zok_b1, I_add, I_sub, I_mul, I_neg, J_add, J_sub, J_mul, J_toI, I_ofNat, I_cl, I_J, I_ne2, zup_same, zup_up, zup_ne, zc1_eqB, zc1_neB, zret_b, zret_b0, zret_b1, List.getD_cons_zero, List.getD_cons_succ, List.length_cons, List.length_nil, List.set_cons_zero, List.set_cons_succ, Option.toList, List.cons_append, List.nil_append, Int.cast_ofNat_Int, decide_eq_true_eq, Bool.and_eq_true, and_self, true_and, and_true, if_true, if_false, not_true_eq_false, not_false_eq_true, ↓reduceIte, Nat.reduceAdd, Nat.reduceLT, Nat.reduceLeDiff, Nat.reduceEqDiff, Int.reduceAdd, Int.reduceSub, Int.reduceMul, Int.reduceNeg, Int.reduceLT, Int.reduceLE, Int.reduceEq, Int.reduceToNat, Int.toNat_natCast, Nat.lt_add_one, Nat.zero_lt_succ, q1_eq_t, q1_eq_f, q2_eq_t, q2_eq_f, ql_eq_t, ql_eq_f, q1_ne_t, q1_ne_f, q2_ne_t, q2_ne_f, ql_ne_t, ql_ne_f, q1_lt_t, q1_lt_f, q2_lt_t, q2_lt_f, ql_lt_t, ql_lt_f, q1_ge_t, q1_ge_f, q2_ge_t, q2_ge_f, ql_ge_t, ql_ge_f, q1_gt_t, q1_gt_f, q2_gt_t, q2_gt_f, ql_gt_t, ql_gt_f, q1_le_t, q1_le_f, q2_le_t, q2_le_f, ql_le_t, ql_le_f, zib_t, qb_t, qb_f, nk_add, nk_mul, nk_sub, nk_d1, nk_d0, nk_toNat, nk_r1, nk_l1, nk_m1, nk_n1, nk_s1, nk_t1, nk_r2, nk_l2, nk_m2, nk_n2, nk_s2, nk_t2, nk_r3, nk_l3, nk_m3, nk_n3, nk_s3, nk_t3, nk_r4, nk_l4, nk_m4, nk_n4, nk_s4, nk_t4, nk_r6, nk_l6, nk_m6, nk_n6, nk_s6, nk_t6, nk_r7, nk_l7, nk_m7, nk_n7, nk_s7, nk_t7, nk_r8, nk_l8, nk_m8, nk_n8, nk_s8, nk_t8, nk_r12, nk_l12, nk_m12, nk_n12, nk_s12, nk_t12, nk_r31, nk_l31, nk_m31, nk_n31, nk_s31, nk_t31, nk_r32, nk_l32, nk_m32, nk_n32, nk_s32, nk_t32, nk_r59, nk_l59, nk_m59, nk_n59, nk_s59, nk_t59, nk_r60, nk_l60, nk_m60, nk_n60, nk_s60, nk_t60, nk_r96, nk_l96, nk_m96, nk_n96, nk_s96, nk_t96, nk_r97, nk_l97, nk_m97, nk_n97, nk_s97, nk_t97, nk_r120, nk_l120, nk_m120, nk_n120, nk_s120, nk_t120, nk_r240, nk_l240, nk_m240, nk_n240, nk_s240, nk_t240, nk_r255, nk_l255, nk_m255, nk_n255, nk_s255, nk_t255, nk_r256, nk_l256, nk_m256, nk_n256, nk_s256, nk_t256, Nat.add_zero, Nat.zero_add, Nat.mul_one, Nat.one_mul, Nat.mul_zero, Nat.zero_mul, Nat.sub_zero, Nat.reduceSub, Nat.reduceMul, Nat.add_sub_cancel, Bool.false_eq_true, Int.add_zero, Int.zero_add, Int.sub_zero, e2, q2, s0, s1, s2, s3, s4, s5, s6, h18, h139, zst_cast, zrq_R, zgq_R, zfty_6_10, c141, hsz', e3, e4, e5]
  refine ⟨_, hfin, ⟨zst KS n (kd : Int), zst FS n (a : Int), zst SS n (b : Int), zst NS n (sz t : Int), zst TS n (pr : Int), zst SL s ((n + 1 : Nat) : Int), WT, zst TB n (tbn P t np), ⟨?_, ?_, ?_, ?_, ?_, ?_, ?_⟩, ?_, zup_same, ?_, fun k hk => ?_, fun k hk => ?_, hSL2, by omega, fun k hk => ?_⟩, ?_⟩
  · simp (disch := omega) only [g5, zup_same, zup_ne]
  · simp (disch := omega) only [g5, zup_same, zup_ne]
  · simp (disch := omega) only [g5, zup_same, zup_ne]
  · simp (disch := omega) only [g5, zup_same, zup_ne]
  · simp (disch := omega) only [g5, zup_same, zup_ne]
  · simp (disch := omega) only [g5, zup_same, zup_ne]
  · simp (disch := omega) only [g5, zup_same, zup_ne]
  · simp (disch := omega) only [g5, zup_ne, h18]
  · simp (disch := omega) only [g5, zup_ne, h140]
  · by_cases hkn : k = n
    · subst hkn
      exact ⟨Q', by simp (disch := omega) only [g5, zup_same, zup_ne]⟩
    · obtain ⟨Q0, hQ0⟩ := hrw k hk
      exact ⟨Q0, by simp (disch := omega) only [g5, zup_ne, hQ0]⟩
  · by_cases hkn : k = n
    · subst hkn
      rw [zst_same]
      refine ⟨Q', R, by simp (disch := omega) only [g5, zup_same, zup_ne], r1, fun i hi w => ?_⟩
      rw [r2 i hi w]
      constructor
      · rintro ⟨g1, j, g2, g3, g4⟩; exact ⟨g1, j, g2, g3, ((tbn_bit _ _).mp g4).2⟩
      · rintro ⟨g1, j, g2, g3, g4⟩; exact ⟨g1, j, g2, g3, (tbn_bit _ _).mpr ⟨g2, g4⟩⟩
    · rw [zst_ne hkn]
      obtain ⟨Q0, R0, g1, g2⟩ := hrk k (by omega)
      exact ⟨Q0, R0, by simp (disch := omega) only [g5, zup_ne, g1], g2⟩
  · by_cases hkn : k = n
    · subst hkn
      rw [zst_same, zst_same, zst_same, zst_same, zst_same, zst_same, zst_same, zst_same]
      exact ⟨rfl, rfl, rfl, rfl, rfl, rfl⟩
    · simp only [zst_ne hkn]
      exact hE k (by omega)
  · intro i hi
    simp (disch := omega) only [g5, zup_ne]
theorem st_iffr {z : Int} {p : zE} {w : List Nat} : mt (.mulL z p) w ↔ w = [] ∨ ∃ u v, v ≠ [] ∧ w = u ++ v ∧ mt (.mulL z p) u ∧ mt p v := by
  constructor
  · rintro ⟨ws, h, rfl⟩
    have key : ∀ (k : Nat) (ws : List (List Nat)), ws.length = k → (∀ u ∈ ws, mt p u) → (ws.flatten = [] ∨ ∃ u v, v ≠ [] ∧ ws.flatten = u ++ v ∧ mt (.mulL z p) u ∧ mt p v) := by
      intro k
      induction k with
      | zero =>
        intro ws hk _
        rw [List.length_eq_zero_iff] at hk
        subst hk; exact Or.inl rfl
      | succ k ih =>
        intro ws hk h
        rcases List.eq_nil_or_concat ws with rfl | ⟨ws', x, rfl⟩
        · cases hk
        · rw [List.concat_eq_append] at *
          rw [List.length_append, List.length_singleton] at hk
          have h1 : ∀ u ∈ ws', mt p u := fun u hu => h u (List.mem_append_left _ hu)
          have e : (ws' ++ [x]).flatten = ws'.flatten ++ x := by simp
          by_cases hx : x = []
          · rw [e, hx, List.append_nil]
            exact ih ws' (by omega) h1
          · exact Or.inr ⟨ws'.flatten, x, hx, e, ⟨ws', h1, rfl⟩, h x (List.mem_append_right _ (List.mem_singleton.mpr rfl))⟩
    exact key _ ws rfl h
  · rintro (rfl | ⟨u, v, -, rfl, ⟨ws, h, rfl⟩, hv⟩)
    · exact ⟨[], fun u hu => (by cases hu), rfl⟩
    · refine ⟨ws ++ [v], fun x hx => ?_, by simp⟩
      rcases List.mem_append.mp hx with hx | hx
      · exact h x hx
      · rw [List.mem_singleton] at hx; rw [hx]; exact hv
theorem fcl_app (hfcl : fcl P np) {w : Nat} (hw : w < np) {u v : List Nat} (h : P w = u ++ v) : pmem P np u ∧ pmem P np v := by
  have hl := congrArg List.length h
  rw [List.length_append] at hl
  have h1 := hfcl w hw 0 u.length (Nat.zero_le _) (by omega)
  have h2 := hfcl w hw u.length (P w).length (by omega) (Nat.le_refl _)
  constructor
  · have : wsl (P w) 0 u.length = u := by
      unfold wsl
      rw [h, List.drop_zero]; exact List.take_left
    rw [this] at h1; exact h1
  · have : wsl (P w) u.length (P w).length = v := by
      unfold wsl
      rw [List.take_length, h]; exact List.drop_left
    rw [this] at h2; exact h2
theorem ct_l {p q : Nat} {KS FS SS NS TS : Nat → Int} {TB : Nat → Nat} {Q : Nat → Int} {R : Nat → Nat} (hd : 1 ≤ d) (hs : sto f n KS FS SS NS TS (fun k => (TB k : Int))) (h18 : f 18 = some (kR 7 120 (fun k => 19 + k))) (hn : n ≤ 120) (hp : p < n) (hq : q < n) (hQ : f (19 + q) = some (kL 60 Q)) (hR : ∀ i, i < 60 → Q i = (R i : Int) ∧ R i < 1152921504606846976) (hTB : TB p < 1152921504606846976) : ∀ j c X : Nat, c + j = 60 → X < 1152921504606846976 → (∀ w, X.testBit w = true ↔ ∃ i, i < c ∧ (TB p).testBit i = true ∧ (R i).testBit w = true) → ∃ X' : Nat, zex zTb d zqX6_chainTable 5 [.ref 11, .int (I p), .int (I q), .long (J X), .null, .int (I c)] [] f m = some (.inl (some (.long (J X'))), f, m) ∧ X' < 1152921504606846976 ∧ ∀ w, X'.testBit w = true ↔ ∃ i, i < 60 ∧ (TB p).testBit i = true ∧ (R i).testBit w = true := by
  have e1 := s_X6_has (d := d) (m := m) (j := (p : Int)) hd hs hn (by omega) (by omega)
  have e2 := s_X6_has (d := d) (m := m) (j := (q : Int)) hd hs hn (by omega) (by omega)
  rw [if_pos (by omega)] at e1 e2
  obtain ⟨s0, s1, s2, s3, s4, s5, s6⟩ := hs
  intro j
  induction j with
  | zero =>
    intro c X hc hX hb
    obtain rfl : c = 60 := by omega
    refine ⟨X, ?_, hX, hb⟩
    rw [ze_X6_chainTable_5]
    simp (disch := omega) only [ze_X6_chainTable_0, ze_X6_chainTable_10, ze_X6_chainTable_13, ze_X6_chainTable_18, ze_X6_chainTable_21, ze_X6_chainTable_28, ze_X6_chainTable_32, ze_X6_chainTable_34, ze_X6_chainTable_44, ze_X6_chainTable_49, ze_X6_chainTable_51, ze_X6_chainTable_54, ze_X6_chainTable_56, ze_X6_chainTable_62, zcal_x, zfh_nil, zfh_cons, zset_0, zset_1, zset_s, zcal_v, zcal_n, zcalI_n, zco_O, zcf_O, zcs_O, zisc_O, zr8_A, zr8_S, zri_A, zri_B, zri_C, zrl_L, zrd_D, zrs_R, zgi_A, zgi_S, zgi_B, zgi_C, zgl_L, zgd_D, zisa_A, zisa_S, zisa_L, zisa_B, zisa_R, zln_A, zln_S, zln_L, zln_B, zln_R, zwi_A, zwl_L, zwd_D, zclr_i, zclr_r, zclr_l, zclr_d, zclr_n, zok_i, zok_l, zok_b0, zok_b1, I_add, I_sub, I_mul, I_neg, J_add, J_sub, J_mul, J_toI, I_ofNat, I_cl, I_J, I_ne2, zup_same, zup_up, zup_ne, zc1_eqB, zc1_neB, zret_b, zret_b0, zret_b1, List.getD_cons_zero, List.getD_cons_succ, List.length_cons, List.length_nil, List.set_cons_zero, List.set_cons_succ, Option.toList, List.cons_append, List.nil_append, Int.cast_ofNat_Int, decide_eq_true_eq, Bool.and_eq_true, and_self, true_and, and_true, if_true, if_false, not_true_eq_false, not_false_eq_true, ↓reduceIte, Nat.reduceAdd, Nat.reduceLT, Nat.reduceLeDiff, Nat.reduceEqDiff, Int.reduceAdd, Int.reduceSub, Int.reduceMul, Int.reduceNeg, Int.reduceLT, Int.reduceLE, Int.reduceEq, Int.reduceToNat, Int.toNat_natCast, Nat.lt_add_one, Nat.zero_lt_succ, q1_eq_t, q1_eq_f, q2_eq_t, q2_eq_f, ql_eq_t, ql_eq_f, q1_ne_t, q1_ne_f, q2_ne_t, q2_ne_f, ql_ne_t, ql_ne_f, q1_lt_t, q1_lt_f, q2_lt_t, q2_lt_f, ql_lt_t, ql_lt_f, q1_ge_t, q1_ge_f, q2_ge_t, q2_ge_f, ql_ge_t, ql_ge_f, q1_gt_t, q1_gt_f, q2_gt_t, q2_gt_f, ql_gt_t, ql_gt_f, q1_le_t, q1_le_f, q2_le_t, q2_le_f, ql_le_t, ql_le_f, zib_t, qb_t, qb_f, nk_add, nk_mul, nk_sub, nk_d1, nk_d0, nk_toNat, nk_r1, nk_l1, nk_m1, nk_n1, nk_s1, nk_t1, nk_r2, nk_l2, nk_m2, nk_n2, nk_s2, nk_t2, nk_r3, nk_l3, nk_m3, nk_n3, nk_s3, nk_t3, nk_r4, nk_l4, nk_m4, nk_n4, nk_s4, nk_t4, nk_r6, nk_l6, nk_m6, nk_n6, nk_s6, nk_t6, nk_r7, nk_l7, nk_m7, nk_n7, nk_s7, nk_t7, nk_r8, nk_l8, nk_m8, nk_n8, nk_s8, nk_t8, nk_r12, nk_l12, nk_m12, nk_n12, nk_s12, nk_t12, nk_r31, nk_l31, nk_m31, nk_n31, nk_s31, nk_t31, nk_r32, nk_l32, nk_m32, nk_n32, nk_s32, nk_t32, nk_r59, nk_l59, nk_m59, nk_n59, nk_s59, nk_t59, nk_r60, nk_l60, nk_m60, nk_n60, nk_s60, nk_t60, nk_r96, nk_l96, nk_m96, nk_n96, nk_s96, nk_t96, nk_r97, nk_l97, nk_m97, nk_n97, nk_s97, nk_t97, nk_r120, nk_l120, nk_m120, nk_n120, nk_s120, nk_t120, nk_r240, nk_l240, nk_m240, nk_n240, nk_s240, nk_t240, nk_r255, nk_l255, nk_m255, nk_n255, nk_s255, nk_t255, nk_r256, nk_l256, nk_m256, nk_n256, nk_s256, nk_t256, Nat.add_zero, Nat.zero_add, Nat.mul_one, Nat.one_mul, Nat.mul_zero, Nat.zero_mul, Nat.sub_zero, Nat.reduceSub, Nat.reduceMul, Nat.add_sub_cancel, Bool.false_eq_true, Int.add_zero, Int.zero_add, Int.sub_zero, e1, e2, s0]
  | succ j ih =>
    intro c X hc hX hb
    obtain ⟨r1, r2⟩ := hR c (by omega)
    by_cases ht : (TB p).testBit c = true
    · have k1 := tb_t ht
      have hor : X ||| R c < 1152921504606846976 := Nat.or_lt_two_pow (n := 60) hX r2
      obtain ⟨X', i1, i2, i3⟩ := ih (c + 1) (X ||| R c) (by omega) hor (by
        intro w
        rw [Nat.testBit_or, Bool.or_eq_true, hb]
        constructor
        · rintro (⟨i, h1, h2⟩ | h1)
          · exact ⟨i, by omega, h2⟩
          · exact ⟨c, by omega, ht, h1⟩
        · rintro ⟨i, h1, h2, h3⟩
          by_cases hi : i = c
          · subst hi; exact Or.inr h3
          · exact Or.inl ⟨i, by omega, h2, h3⟩)
      refine ⟨X', ?_, i2, i3⟩
      rw [ze_X6_chainTable_5]
      refine Eq.trans ?_ i1
      simp (disch := omega) only [ze_X6_chainTable_0, ze_X6_chainTable_10, ze_X6_chainTable_13, ze_X6_chainTable_18, ze_X6_chainTable_21, ze_X6_chainTable_28, ze_X6_chainTable_32, ze_X6_chainTable_34, ze_X6_chainTable_44, ze_X6_chainTable_49, ze_X6_chainTable_51, ze_X6_chainTable_54, ze_X6_chainTable_56, ze_X6_chainTable_62, zcal_x, zfh_nil, zfh_cons, zset_0, zset_1, zset_s, zcal_v, zcal_n, zcalI_n, zco_O, zcf_O, zcs_O, zisc_O, zr8_A, zr8_S, zri_A, zri_B, zri_C, zrl_L, zrd_D, zrs_R, zgi_A, zgi_S, zgi_B, zgi_C, zgl_L, zgd_D, zisa_A, zisa_S, zisa_L, zisa_B, zisa_R, zln_A, zln_S, zln_L, zln_B, zln_R, zwi_A, zwl_L, zwd_D, zclr_i, zclr_r, zclr_l, zclr_d, zclr_n, zok_i, zok_l, zok_b0, zok_b1, I_add, I_sub, I_mul, I_neg, J_add, J_sub, J_mul, J_toI, I_ofNat, I_cl, I_J, I_ne2, zup_same, zup_up, zup_ne, zc1_eqB, zc1_neB, zret_b, zret_b0, zret_b1, List.getD_cons_zero, List.getD_cons_succ, List.length_cons, List.length_nil, List.set_cons_zero, List.set_cons_succ, Option.toList, List.cons_append, List.nil_append, Int.cast_ofNat_Int, decide_eq_true_eq, Bool.and_eq_true, and_self, true_and, and_true, if_true, if_false, not_true_eq_false, not_false_eq_true, ↓reduceIte, Nat.reduceAdd, Nat.reduceLT, Nat.reduceLeDiff, Nat.reduceEqDiff, Int.reduceAdd, Int.reduceSub, Int.reduceMul, Int.reduceNeg, Int.reduceLT, Int.reduceLE, Int.reduceEq, Int.reduceToNat, Int.toNat_natCast, Nat.lt_add_one, Nat.zero_lt_succ, q1_eq_t, q1_eq_f, q2_eq_t, q2_eq_f, ql_eq_t, ql_eq_f, q1_ne_t, q1_ne_f, q2_ne_t, q2_ne_f, ql_ne_t, ql_ne_f, q1_lt_t, q1_lt_f, q2_lt_t, q2_lt_f, ql_lt_t, ql_lt_f, q1_ge_t, q1_ge_f, q2_ge_t, q2_ge_f, ql_ge_t, ql_ge_f, q1_gt_t, q1_gt_f, q2_gt_t, q2_gt_f, ql_gt_t, ql_gt_f, q1_le_t, q1_le_f, q2_le_t, q2_le_f, ql_le_t, ql_le_f, zib_t, qb_t, qb_f, nk_add, nk_mul, nk_sub, nk_d1, nk_d0, nk_toNat, nk_r1, nk_l1, nk_m1, nk_n1, nk_s1, nk_t1, nk_r2, nk_l2, nk_m2, nk_n2, nk_s2, nk_t2, nk_r3, nk_l3, nk_m3, nk_n3, nk_s3, nk_t3, nk_r4, nk_l4, nk_m4, nk_n4, nk_s4, nk_t4, nk_r6, nk_l6, nk_m6, nk_n6, nk_s6, nk_t6, nk_r7, nk_l7, nk_m7, nk_n7, nk_s7, nk_t7, nk_r8, nk_l8, nk_m8, nk_n8, nk_s8, nk_t8, nk_r12, nk_l12, nk_m12, nk_n12, nk_s12, nk_t12, nk_r31, nk_l31, nk_m31, nk_n31, nk_s31, nk_t31, nk_r32, nk_l32, nk_m32, nk_n32, nk_s32, nk_t32, nk_r59, nk_l59, nk_m59, nk_n59, nk_s59, nk_t59, nk_r60, nk_l60, nk_m60, nk_n60, nk_s60, nk_t60, nk_r96, nk_l96, nk_m96, nk_n96, nk_s96, nk_t96, nk_r97, nk_l97, nk_m97, nk_n97, nk_s97, nk_t97, nk_r120, nk_l120, nk_m120, nk_n120, nk_s120, nk_t120, nk_r240, nk_l240, nk_m240, nk_n240, nk_s240, nk_t240, nk_r255, nk_l255, nk_m255, nk_n255, nk_s255, nk_t255, nk_r256, nk_l256, nk_m256, nk_n256, nk_s256, nk_t256, Nat.add_zero, Nat.zero_add, Nat.mul_one, Nat.one_mul, Nat.mul_zero, Nat.zero_mul, Nat.sub_zero, Nat.reduceSub, Nat.reduceMul, Nat.add_sub_cancel, Bool.false_eq_true, Int.add_zero, Int.zero_add, Int.sub_zero, e1, e2, s0, s6, h18, hQ, zrq_R, zgq_R, J_ushrI, J_and1, k1, r1, J_or]
    · have k1 := tb_f ht
      obtain ⟨X', i1, i2, i3⟩ := ih (c + 1) X (by omega) hX (by
        intro w
        rw [hb]
        constructor
        · rintro ⟨i, h1, h2⟩; exact ⟨i, by omega, h2⟩
        · rintro ⟨i, h1, h2, h3⟩
          by_cases hi : i = c
          · subst hi; exact absurd h2 ht
          · exact ⟨i, by omega, h2, h3⟩)
      refine ⟨X', ?_, i2, i3⟩
      rw [ze_X6_chainTable_5]
      refine Eq.trans ?_ i1
      simp (disch := omega) only [ze_X6_chainTable_0, ze_X6_chainTable_10, ze_X6_chainTable_13, ze_X6_chainTable_18, ze_X6_chainTable_21, ze_X6_chainTable_28, ze_X6_chainTable_32, ze_X6_chainTable_34, ze_X6_chainTable_44, ze_X6_chainTable_49, ze_X6_chainTable_51, ze_X6_chainTable_54, ze_X6_chainTable_56, ze_X6_chainTable_62, zcal_x, zfh_nil, zfh_cons, zset_0, zset_1, zset_s, zcal_v, zcal_n, zcalI_n, zco_O, zcf_O, zcs_O, zisc_O, zr8_A, zr8_S, zri_A, zri_B, zri_C, zrl_L, zrd_D, zrs_R, zgi_A, zgi_S, zgi_B, zgi_C, zgl_L, zgd_D, zisa_A, zisa_S, zisa_L, zisa_B, zisa_R, zln_A, zln_S, zln_L, zln_B, zln_R, zwi_A, zwl_L, zwd_D, zclr_i, zclr_r, zclr_l, zclr_d, zclr_n, zok_i, zok_l, zok_b0, zok_b1, I_add, I_sub, I_mul, I_neg, J_add, J_sub, J_mul, J_toI, I_ofNat, I_cl, I_J, I_ne2, zup_same, zup_up, zup_ne, zc1_eqB, zc1_neB, zret_b, zret_b0, zret_b1, List.getD_cons_zero, List.getD_cons_succ, List.length_cons, List.length_nil, List.set_cons_zero, List.set_cons_succ, Option.toList, List.cons_append, List.nil_append, Int.cast_ofNat_Int, decide_eq_true_eq, Bool.and_eq_true, and_self, true_and, and_true, if_true, if_false, not_true_eq_false, not_false_eq_true, ↓reduceIte, Nat.reduceAdd, Nat.reduceLT, Nat.reduceLeDiff, Nat.reduceEqDiff, Int.reduceAdd, Int.reduceSub, Int.reduceMul, Int.reduceNeg, Int.reduceLT, Int.reduceLE, Int.reduceEq, Int.reduceToNat, Int.toNat_natCast, Nat.lt_add_one, Nat.zero_lt_succ, q1_eq_t, q1_eq_f, q2_eq_t, q2_eq_f, ql_eq_t, ql_eq_f, q1_ne_t, q1_ne_f, q2_ne_t, q2_ne_f, ql_ne_t, ql_ne_f, q1_lt_t, q1_lt_f, q2_lt_t, q2_lt_f, ql_lt_t, ql_lt_f, q1_ge_t, q1_ge_f, q2_ge_t, q2_ge_f, ql_ge_t, ql_ge_f, q1_gt_t, q1_gt_f, q2_gt_t, q2_gt_f, ql_gt_t, ql_gt_f, q1_le_t, q1_le_f, q2_le_t, q2_le_f, ql_le_t, ql_le_f, zib_t, qb_t, qb_f, nk_add, nk_mul, nk_sub, nk_d1, nk_d0, nk_toNat, nk_r1, nk_l1, nk_m1, nk_n1, nk_s1, nk_t1, nk_r2, nk_l2, nk_m2, nk_n2, nk_s2, nk_t2, nk_r3, nk_l3, nk_m3, nk_n3, nk_s3, nk_t3, nk_r4, nk_l4, nk_m4, nk_n4, nk_s4, nk_t4, nk_r6, nk_l6, nk_m6, nk_n6, nk_s6, nk_t6, nk_r7, nk_l7, nk_m7, nk_n7, nk_s7, nk_t7, nk_r8, nk_l8, nk_m8, nk_n8, nk_s8, nk_t8, nk_r12, nk_l12, nk_m12, nk_n12, nk_s12, nk_t12, nk_r31, nk_l31, nk_m31, nk_n31, nk_s31, nk_t31, nk_r32, nk_l32, nk_m32, nk_n32, nk_s32, nk_t32, nk_r59, nk_l59, nk_m59, nk_n59, nk_s59, nk_t59, nk_r60, nk_l60, nk_m60, nk_n60, nk_s60, nk_t60, nk_r96, nk_l96, nk_m96, nk_n96, nk_s96, nk_t96, nk_r97, nk_l97, nk_m97, nk_n97, nk_s97, nk_t97, nk_r120, nk_l120, nk_m120, nk_n120, nk_s120, nk_t120, nk_r240, nk_l240, nk_m240, nk_n240, nk_s240, nk_t240, nk_r255, nk_l255, nk_m255, nk_n255, nk_s255, nk_t255, nk_r256, nk_l256, nk_m256, nk_n256, nk_s256, nk_t256, Nat.add_zero, Nat.zero_add, Nat.mul_one, Nat.one_mul, Nat.mul_zero, Nat.zero_mul, Nat.sub_zero, Nat.reduceSub, Nat.reduceMul, Nat.add_sub_cancel, Bool.false_eq_true, Int.add_zero, Int.zero_add, Int.sub_zero, e1, e2, s0, s6, h18, hQ, zrq_R, zgq_R, J_ushrI, J_and1, k1, r1, Int.natCast_zero]
theorem s_chainTable {p q : Nat} (hd : 2 ≤ d) (h : SO f P np n E T) (hnp : np ≤ 60) (hfcl : fcl P np) (hp : p < n) (hq : q < n) : zrun zTb d 62 [.ref 11, .int (I p), .int (I q)] f m = some (.inl (some (.long (J (tbn P (.sub (T p) (T q)) np : Nat)))), f, m) := by
  obtain ⟨d, rfl⟩ : ∃ e, d = e + 1 := ⟨d - 1, by omega⟩
  obtain ⟨KS, FS, SS, NS, TS, SL, WT, TB, hsto, h18, h139, h140, hrw, hrk, hSL, hn, hE⟩ := h
  have hTBt := fun k hk => (hE k hk).2.2.2.2.2
  have hTBl := SO_lt hnp hTBt
  obtain ⟨Q, R, r1, r2, r3⟩ := hrk q hq
  obtain ⟨X, k1, k2, k3⟩ := ct_l (d := d) (m := m) (p := p) (q := q) (by omega) hsto h18 hn hp hq r1 r2 (hTBl p hp) 60 0 0 (by omega) (by omega) (by
    intro w
    rw [Nat.zero_testBit]
    exact ⟨fun h => (by cases h), fun ⟨i, h, _⟩ => by cases h⟩)
  have : X = tbn P (.sub (T p) (T q)) np := by
    apply tbn_of
    intro w
    rw [k3]
    constructor
    · rintro ⟨i, h1, h2, h3⟩
      rw [hTBt p hp, tbn_bit] at h2
      obtain ⟨h4, j, h5, h6, h7⟩ := (r3 i h2.1 w).mp h3
      exact ⟨h4, P i, P j, h6, h2.2, h7⟩
    · rintro ⟨h1, u, v, h2, h3, h4⟩
      obtain ⟨⟨i, i1, rfl⟩, ⟨j, j1, rfl⟩⟩ := fcl_app hfcl h1 h2
      refine ⟨i, by omega, ?_, (r3 i i1 w).mpr ⟨h1, j, j1, h2, h4⟩⟩
      rw [hTBt p hp, tbn_bit]
      exact ⟨i1, h3⟩
  rw [← this, zs_X6_chainTable]
  refine Eq.trans ?_ k1
  simp (disch := omega) only [ze_X6_chainTable_0, ze_X6_chainTable_10, ze_X6_chainTable_13, ze_X6_chainTable_18, ze_X6_chainTable_21, ze_X6_chainTable_28, ze_X6_chainTable_32, ze_X6_chainTable_34, ze_X6_chainTable_44, ze_X6_chainTable_49, ze_X6_chainTable_51, ze_X6_chainTable_54, ze_X6_chainTable_56, ze_X6_chainTable_62, zcal_x, zfh_nil, zfh_cons, zset_0, zset_1, zset_s, zcal_v, zcal_n, zcalI_n, zco_O, zcf_O, zcs_O, zisc_O, zr8_A, zr8_S, zri_A, zri_B, zri_C, zrl_L, zrd_D, zrs_R, zgi_A, zgi_S, zgi_B, zgi_C, zgl_L, zgd_D, zisa_A, zisa_S, zisa_L, zisa_B, zisa_R, zln_A, zln_S, zln_L, zln_B, zln_R, zwi_A, zwl_L, zwd_D, zclr_i, zclr_r, zclr_l, zclr_d, zclr_n, zok_i, zok_l, zok_b0, zok_b1, I_add, I_sub, I_mul, I_neg, J_add, J_sub, J_mul, J_toI, I_ofNat, I_cl, I_J, I_ne2, zup_same, zup_up, zup_ne, zc1_eqB, zc1_neB, zret_b, zret_b0, zret_b1, List.getD_cons_zero, List.getD_cons_succ, List.length_cons, List.length_nil, List.set_cons_zero, List.set_cons_succ, Option.toList, List.cons_append, List.nil_append, Int.cast_ofNat_Int, decide_eq_true_eq, Bool.and_eq_true, and_self, true_and, and_true, if_true, if_false, not_true_eq_false, not_false_eq_true, ↓reduceIte, Nat.reduceAdd, Nat.reduceLT, Nat.reduceLeDiff, Nat.reduceEqDiff, Int.reduceAdd, Int.reduceSub, Int.reduceMul, Int.reduceNeg, Int.reduceLT, Int.reduceLE, Int.reduceEq, Int.reduceToNat, Int.toNat_natCast, Nat.lt_add_one, Nat.zero_lt_succ, q1_eq_t, q1_eq_f, q2_eq_t, q2_eq_f, ql_eq_t, ql_eq_f, q1_ne_t, q1_ne_f, q2_ne_t, q2_ne_f, ql_ne_t, ql_ne_f, q1_lt_t, q1_lt_f, q2_lt_t, q2_lt_f, ql_lt_t, ql_lt_f, q1_ge_t, q1_ge_f, q2_ge_t, q2_ge_f, ql_ge_t, ql_ge_f, q1_gt_t, q1_gt_f, q2_gt_t, q2_gt_f, ql_gt_t, ql_gt_f, q1_le_t, q1_le_f, q2_le_t, q2_le_f, ql_le_t, ql_le_f, zib_t, qb_t, qb_f, nk_add, nk_mul, nk_sub, nk_d1, nk_d0, nk_toNat, nk_r1, nk_l1, nk_m1, nk_n1, nk_s1, nk_t1, nk_r2, nk_l2, nk_m2, nk_n2, nk_s2, nk_t2, nk_r3, nk_l3, nk_m3, nk_n3, nk_s3, nk_t3, nk_r4, nk_l4, nk_m4, nk_n4, nk_s4, nk_t4, nk_r6, nk_l6, nk_m6, nk_n6, nk_s6, nk_t6, nk_r7, nk_l7, nk_m7, nk_n7, nk_s7, nk_t7, nk_r8, nk_l8, nk_m8, nk_n8, nk_s8, nk_t8, nk_r12, nk_l12, nk_m12, nk_n12, nk_s12, nk_t12, nk_r31, nk_l31, nk_m31, nk_n31, nk_s31, nk_t31, nk_r32, nk_l32, nk_m32, nk_n32, nk_s32, nk_t32, nk_r59, nk_l59, nk_m59, nk_n59, nk_s59, nk_t59, nk_r60, nk_l60, nk_m60, nk_n60, nk_s60, nk_t60, nk_r96, nk_l96, nk_m96, nk_n96, nk_s96, nk_t96, nk_r97, nk_l97, nk_m97, nk_n97, nk_s97, nk_t97, nk_r120, nk_l120, nk_m120, nk_n120, nk_s120, nk_t120, nk_r240, nk_l240, nk_m240, nk_n240, nk_s240, nk_t240, nk_r255, nk_l255, nk_m255, nk_n255, nk_s255, nk_t255, nk_r256, nk_l256, nk_m256, nk_n256, nk_s256, nk_t256, Nat.add_zero, Nat.zero_add, Nat.mul_one, Nat.one_mul, Nat.mul_zero, Nat.zero_mul, Nat.sub_zero, Nat.reduceSub, Nat.reduceMul, Nat.add_sub_cancel, Bool.false_eq_true, Int.add_zero, Int.zero_add, Int.sub_zero]
theorem rt_l {p : Nat} {KS FS SS NS TS : Nat → Int} {TB : Nat → Nat} {Q : Nat → Int} {R : Nat → Nat} (hd : 1 ≤ d) (hs : sto f n KS FS SS NS TS (fun k => (TB k : Int))) (h18 : f 18 = some (kR 7 120 (fun k => 19 + k))) (hn : n ≤ 120) (hp : p < n) (hQ : f (19 + p) = some (kL 60 Q)) (hR : ∀ i, i < 60 → Q i = (R i : Int) ∧ R i < 1152921504606846976) (K : Nat → Prop) (hK : ∀ i w, K i → (R i).testBit w = true → K w ∧ i ≤ w) : ∀ j c X : Nat, c + j = 60 → X < 1152921504606846976 → X.testBit 0 = true → (∀ w, X.testBit w = true → K w) → (∀ i, i < c → X.testBit i = true → ∀ w, (R i).testBit w = true → X.testBit w = true) → ∃ X' : Nat, zex zTb d zqX6_repeatTable 5 [.ref 11, .int (I p), .long (J X), .null, .int (I c)] [] f m = some (.inl (some (.long (J X'))), f, m) ∧ X' < 1152921504606846976 ∧ X'.testBit 0 = true ∧ (∀ w, X'.testBit w = true → K w) ∧ (∀ i, i < 60 → X'.testBit i = true → ∀ w, (R i).testBit w = true → X'.testBit w = true) := by
  have e1 := s_X6_has (d := d) (m := m) (j := (p : Int)) hd hs hn (by omega) (by omega)
  rw [if_pos (by omega)] at e1
  obtain ⟨s0, s1, s2, s3, s4, s5, s6⟩ := hs
  intro j
  induction j with
  | zero =>
    intro c X hc hX hb0 hb hcl
    obtain rfl : c = 60 := by omega
    refine ⟨X, ?_, hX, hb0, hb, hcl⟩
    rw [ze_X6_repeatTable_5]
    simp (disch := omega) only [ze_X6_repeatTable_0, ze_X6_repeatTable_10, ze_X6_repeatTable_13, ze_X6_repeatTable_20, ze_X6_repeatTable_31, ze_X6_repeatTable_36, ze_X6_repeatTable_38, ze_X6_repeatTable_41, ze_X6_repeatTable_43, ze_X6_repeatTable_49, zcal_x, zfh_nil, zfh_cons, zset_0, zset_1, zset_s, zcal_v, zcal_n, zcalI_n, zco_O, zcf_O, zcs_O, zisc_O, zr8_A, zr8_S, zri_A, zri_B, zri_C, zrl_L, zrd_D, zrs_R, zgi_A, zgi_S, zgi_B, zgi_C, zgl_L, zgd_D, zisa_A, zisa_S, zisa_L, zisa_B, zisa_R, zln_A, zln_S, zln_L, zln_B, zln_R, zwi_A, zwl_L, zwd_D, zclr_i, zclr_r, zclr_l, zclr_d, zclr_n, zok_i, zok_l, zok_b0, zok_b1, I_add, I_sub, I_mul, I_neg, J_add, J_sub, J_mul, J_toI, I_ofNat, I_cl, I_J, I_ne2, zup_same, zup_up, zup_ne, zc1_eqB, zc1_neB, zret_b, zret_b0, zret_b1, List.getD_cons_zero, List.getD_cons_succ, List.length_cons, List.length_nil, List.set_cons_zero, List.set_cons_succ, Option.toList, List.cons_append, List.nil_append, Int.cast_ofNat_Int, decide_eq_true_eq, Bool.and_eq_true, and_self, true_and, and_true, if_true, if_false, not_true_eq_false, not_false_eq_true, ↓reduceIte, Nat.reduceAdd, Nat.reduceLT, Nat.reduceLeDiff, Nat.reduceEqDiff, Int.reduceAdd, Int.reduceSub, Int.reduceMul, Int.reduceNeg, Int.reduceLT, Int.reduceLE, Int.reduceEq, Int.reduceToNat, Int.toNat_natCast, Nat.lt_add_one, Nat.zero_lt_succ, q1_eq_t, q1_eq_f, q2_eq_t, q2_eq_f, ql_eq_t, ql_eq_f, q1_ne_t, q1_ne_f, q2_ne_t, q2_ne_f, ql_ne_t, ql_ne_f, q1_lt_t, q1_lt_f, q2_lt_t, q2_lt_f, ql_lt_t, ql_lt_f, q1_ge_t, q1_ge_f, q2_ge_t, q2_ge_f, ql_ge_t, ql_ge_f, q1_gt_t, q1_gt_f, q2_gt_t, q2_gt_f, ql_gt_t, ql_gt_f, q1_le_t, q1_le_f, q2_le_t, q2_le_f, ql_le_t, ql_le_f, zib_t, qb_t, qb_f, nk_add, nk_mul, nk_sub, nk_d1, nk_d0, nk_toNat, nk_r1, nk_l1, nk_m1, nk_n1, nk_s1, nk_t1, nk_r2, nk_l2, nk_m2, nk_n2, nk_s2, nk_t2, nk_r3, nk_l3, nk_m3, nk_n3, nk_s3, nk_t3, nk_r4, nk_l4, nk_m4, nk_n4, nk_s4, nk_t4, nk_r6, nk_l6, nk_m6, nk_n6, nk_s6, nk_t6, nk_r7, nk_l7, nk_m7, nk_n7, nk_s7, nk_t7, nk_r8, nk_l8, nk_m8, nk_n8, nk_s8, nk_t8, nk_r12, nk_l12, nk_m12, nk_n12, nk_s12, nk_t12, nk_r31, nk_l31, nk_m31, nk_n31, nk_s31, nk_t31, nk_r32, nk_l32, nk_m32, nk_n32, nk_s32, nk_t32, nk_r59, nk_l59, nk_m59, nk_n59, nk_s59, nk_t59, nk_r60, nk_l60, nk_m60, nk_n60, nk_s60, nk_t60, nk_r96, nk_l96, nk_m96, nk_n96, nk_s96, nk_t96, nk_r97, nk_l97, nk_m97, nk_n97, nk_s97, nk_t97, nk_r120, nk_l120, nk_m120, nk_n120, nk_s120, nk_t120, nk_r240, nk_l240, nk_m240, nk_n240, nk_s240, nk_t240, nk_r255, nk_l255, nk_m255, nk_n255, nk_s255, nk_t255, nk_r256, nk_l256, nk_m256, nk_n256, nk_s256, nk_t256, Nat.add_zero, Nat.zero_add, Nat.mul_one, Nat.one_mul, Nat.mul_zero, Nat.zero_mul, Nat.sub_zero, Nat.reduceSub, Nat.reduceMul, Nat.add_sub_cancel, Bool.false_eq_true, Int.add_zero, Int.zero_add, Int.sub_zero, e1, s0]
  | succ j ih =>
    intro c X hc hX hb0 hb hcl
    obtain ⟨r1, r2⟩ := hR c (by omega)
    by_cases ht : X.testBit c = true
    · have k1 := tb_t ht
      have hor : X ||| R c < 1152921504606846976 := Nat.or_lt_two_pow (n := 60) hX r2
      obtain ⟨X', i1, i2⟩ := ih (c + 1) (X ||| R c) (by omega) hor (by rw [Nat.testBit_or, hb0]; rfl) (by
        intro w hw
        rw [Nat.testBit_or, Bool.or_eq_true] at hw
        rcases hw with hw | hw
        · exact hb w hw
        · exact (hK c w (hb c ht) hw).1) (by
        intro i hi hxi w hw
        rw [Nat.testBit_or, Bool.or_eq_true] at hxi ⊢
        by_cases hic : i = c
        · subst hic; exact Or.inr hw
        · have : X.testBit i = true := by
            rcases hxi with h1 | h1
            · exact h1
            · have := (hK c i (hb c ht) h1).2
              omega
          exact Or.inl (hcl i (by omega) this w hw))
      refine ⟨X', ?_, i2⟩
      rw [ze_X6_repeatTable_5]
      refine Eq.trans ?_ i1
      simp (disch := omega) only [ze_X6_repeatTable_0, ze_X6_repeatTable_10, ze_X6_repeatTable_13, ze_X6_repeatTable_20, ze_X6_repeatTable_31, ze_X6_repeatTable_36, ze_X6_repeatTable_38, ze_X6_repeatTable_41, ze_X6_repeatTable_43, ze_X6_repeatTable_49, zcal_x, zfh_nil, zfh_cons, zset_0, zset_1, zset_s, zcal_v, zcal_n, zcalI_n, zco_O, zcf_O, zcs_O, zisc_O, zr8_A, zr8_S, zri_A, zri_B, zri_C, zrl_L, zrd_D, zrs_R, zgi_A, zgi_S, zgi_B, zgi_C, zgl_L, zgd_D, zisa_A, zisa_S, zisa_L, zisa_B, zisa_R, zln_A, zln_S, zln_L, zln_B, zln_R, zwi_A, zwl_L, zwd_D, zclr_i, zclr_r, zclr_l, zclr_d, zclr_n, zok_i, zok_l, zok_b0, zok_b1, I_add, I_sub, I_mul, I_neg, J_add, J_sub, J_mul, J_toI, I_ofNat, I_cl, I_J, I_ne2, zup_same, zup_up, zup_ne, zc1_eqB, zc1_neB, zret_b, zret_b0, zret_b1, List.getD_cons_zero, List.getD_cons_succ, List.length_cons, List.length_nil, List.set_cons_zero, List.set_cons_succ, Option.toList, List.cons_append, List.nil_append, Int.cast_ofNat_Int, decide_eq_true_eq, Bool.and_eq_true, and_self, true_and, and_true, if_true, if_false, not_true_eq_false, not_false_eq_true, ↓reduceIte, Nat.reduceAdd, Nat.reduceLT, Nat.reduceLeDiff, Nat.reduceEqDiff, Int.reduceAdd, Int.reduceSub, Int.reduceMul, Int.reduceNeg, Int.reduceLT, Int.reduceLE, Int.reduceEq, Int.reduceToNat, Int.toNat_natCast, Nat.lt_add_one, Nat.zero_lt_succ, q1_eq_t, q1_eq_f, q2_eq_t, q2_eq_f, ql_eq_t, ql_eq_f, q1_ne_t, q1_ne_f, q2_ne_t, q2_ne_f, ql_ne_t, ql_ne_f, q1_lt_t, q1_lt_f, q2_lt_t, q2_lt_f, ql_lt_t, ql_lt_f, q1_ge_t, q1_ge_f, q2_ge_t, q2_ge_f, ql_ge_t, ql_ge_f, q1_gt_t, q1_gt_f, q2_gt_t, q2_gt_f, ql_gt_t, ql_gt_f, q1_le_t, q1_le_f, q2_le_t, q2_le_f, ql_le_t, ql_le_f, zib_t, qb_t, qb_f, nk_add, nk_mul, nk_sub, nk_d1, nk_d0, nk_toNat, nk_r1, nk_l1, nk_m1, nk_n1, nk_s1, nk_t1, nk_r2, nk_l2, nk_m2, nk_n2, nk_s2, nk_t2, nk_r3, nk_l3, nk_m3, nk_n3, nk_s3, nk_t3, nk_r4, nk_l4, nk_m4, nk_n4, nk_s4, nk_t4, nk_r6, nk_l6, nk_m6, nk_n6, nk_s6, nk_t6, nk_r7, nk_l7, nk_m7, nk_n7, nk_s7, nk_t7, nk_r8, nk_l8, nk_m8, nk_n8, nk_s8, nk_t8, nk_r12, nk_l12, nk_m12, nk_n12, nk_s12, nk_t12, nk_r31, nk_l31, nk_m31, nk_n31, nk_s31, nk_t31, nk_r32, nk_l32, nk_m32, nk_n32, nk_s32, nk_t32, nk_r59, nk_l59, nk_m59, nk_n59, nk_s59, nk_t59, nk_r60, nk_l60, nk_m60, nk_n60, nk_s60, nk_t60, nk_r96, nk_l96, nk_m96, nk_n96, nk_s96, nk_t96, nk_r97, nk_l97, nk_m97, nk_n97, nk_s97, nk_t97, nk_r120, nk_l120, nk_m120, nk_n120, nk_s120, nk_t120, nk_r240, nk_l240, nk_m240, nk_n240, nk_s240, nk_t240, nk_r255, nk_l255, nk_m255, nk_n255, nk_s255, nk_t255, nk_r256, nk_l256, nk_m256, nk_n256, nk_s256, nk_t256, Nat.add_zero, Nat.zero_add, Nat.mul_one, Nat.one_mul, Nat.mul_zero, Nat.zero_mul, Nat.sub_zero, Nat.reduceSub, Nat.reduceMul, Nat.add_sub_cancel, Bool.false_eq_true, Int.add_zero, Int.zero_add, Int.sub_zero, e1, s0, h18, hQ, zrq_R, zgq_R, J_ushrI, J_and1, k1, r1, J_or]
    · have k1 := tb_f ht
      obtain ⟨X', i1, i2⟩ := ih (c + 1) X (by omega) hX hb0 hb (by
        intro i hi hxi
        by_cases hic : i = c
        · subst hic; exact absurd hxi ht
        · exact hcl i (by omega) hxi)
      refine ⟨X', ?_, i2⟩
      rw [ze_X6_repeatTable_5]
      refine Eq.trans ?_ i1
      simp (disch := omega) only [ze_X6_repeatTable_0, ze_X6_repeatTable_10, ze_X6_repeatTable_13, ze_X6_repeatTable_20, ze_X6_repeatTable_31, ze_X6_repeatTable_36, ze_X6_repeatTable_38, ze_X6_repeatTable_41, ze_X6_repeatTable_43, ze_X6_repeatTable_49, zcal_x, zfh_nil, zfh_cons, zset_0, zset_1, zset_s, zcal_v, zcal_n, zcalI_n, zco_O, zcf_O, zcs_O, zisc_O, zr8_A, zr8_S, zri_A, zri_B, zri_C, zrl_L, zrd_D, zrs_R, zgi_A, zgi_S, zgi_B, zgi_C, zgl_L, zgd_D, zisa_A, zisa_S, zisa_L, zisa_B, zisa_R, zln_A, zln_S, zln_L, zln_B, zln_R, zwi_A, zwl_L, zwd_D, zclr_i, zclr_r, zclr_l, zclr_d, zclr_n, zok_i, zok_l, zok_b0, zok_b1, I_add, I_sub, I_mul, I_neg, J_add, J_sub, J_mul, J_toI, I_ofNat, I_cl, I_J, I_ne2, zup_same, zup_up, zup_ne, zc1_eqB, zc1_neB, zret_b, zret_b0, zret_b1, List.getD_cons_zero, List.getD_cons_succ, List.length_cons, List.length_nil, List.set_cons_zero, List.set_cons_succ, Option.toList, List.cons_append, List.nil_append, Int.cast_ofNat_Int, decide_eq_true_eq, Bool.and_eq_true, and_self, true_and, and_true, if_true, if_false, not_true_eq_false, not_false_eq_true, ↓reduceIte, Nat.reduceAdd, Nat.reduceLT, Nat.reduceLeDiff, Nat.reduceEqDiff, Int.reduceAdd, Int.reduceSub, Int.reduceMul, Int.reduceNeg, Int.reduceLT, Int.reduceLE, Int.reduceEq, Int.reduceToNat, Int.toNat_natCast, Nat.lt_add_one, Nat.zero_lt_succ, q1_eq_t, q1_eq_f, q2_eq_t, q2_eq_f, ql_eq_t, ql_eq_f, q1_ne_t, q1_ne_f, q2_ne_t, q2_ne_f, ql_ne_t, ql_ne_f, q1_lt_t, q1_lt_f, q2_lt_t, q2_lt_f, ql_lt_t, ql_lt_f, q1_ge_t, q1_ge_f, q2_ge_t, q2_ge_f, ql_ge_t, ql_ge_f, q1_gt_t, q1_gt_f, q2_gt_t, q2_gt_f, ql_gt_t, ql_gt_f, q1_le_t, q1_le_f, q2_le_t, q2_le_f, ql_le_t, ql_le_f, zib_t, qb_t, qb_f, nk_add, nk_mul, nk_sub, nk_d1, nk_d0, nk_toNat, nk_r1, nk_l1, nk_m1, nk_n1, nk_s1, nk_t1, nk_r2, nk_l2, nk_m2, nk_n2, nk_s2, nk_t2, nk_r3, nk_l3, nk_m3, nk_n3, nk_s3, nk_t3, nk_r4, nk_l4, nk_m4, nk_n4, nk_s4, nk_t4, nk_r6, nk_l6, nk_m6, nk_n6, nk_s6, nk_t6, nk_r7, nk_l7, nk_m7, nk_n7, nk_s7, nk_t7, nk_r8, nk_l8, nk_m8, nk_n8, nk_s8, nk_t8, nk_r12, nk_l12, nk_m12, nk_n12, nk_s12, nk_t12, nk_r31, nk_l31, nk_m31, nk_n31, nk_s31, nk_t31, nk_r32, nk_l32, nk_m32, nk_n32, nk_s32, nk_t32, nk_r59, nk_l59, nk_m59, nk_n59, nk_s59, nk_t59, nk_r60, nk_l60, nk_m60, nk_n60, nk_s60, nk_t60, nk_r96, nk_l96, nk_m96, nk_n96, nk_s96, nk_t96, nk_r97, nk_l97, nk_m97, nk_n97, nk_s97, nk_t97, nk_r120, nk_l120, nk_m120, nk_n120, nk_s120, nk_t120, nk_r240, nk_l240, nk_m240, nk_n240, nk_s240, nk_t240, nk_r255, nk_l255, nk_m255, nk_n255, nk_s255, nk_t255, nk_r256, nk_l256, nk_m256, nk_n256, nk_s256, nk_t256, Nat.add_zero, Nat.zero_add, Nat.mul_one, Nat.one_mul, Nat.mul_zero, Nat.zero_mul, Nat.sub_zero, Nat.reduceSub, Nat.reduceMul, Nat.add_sub_cancel, Bool.false_eq_true, Int.add_zero, Int.zero_add, Int.sub_zero, e1, s0, h18, hQ, zrq_R, zgq_R, J_ushrI, J_and1, k1, r1, Int.natCast_zero]
theorem s_repeatTable {p : Nat} (hd : 2 ≤ d) (h : SO f P np n E T) (hnp : np ≤ 60) (hnp1 : 1 ≤ np) (hP : spc P np) (hPk : wok P np) (hP0 : P 0 = []) (hfcl : fcl P np) (hp : p < n) : zrun zTb d 61 [.ref 11, .int (I p)] f m = some (.inl (some (.long (J (tbn P (.mulL 0 (T p)) np : Nat)))), f, m) := by
  obtain ⟨d, rfl⟩ : ∃ e, d = e + 1 := ⟨d - 1, by omega⟩
  obtain ⟨KS, FS, SS, NS, TS, SL, WT, TB, hsto, h18, h139, h140, hrw, hrk, hSL, hn, hE⟩ := h
  obtain ⟨Q, R, r1, r2, r3⟩ := hrk p hp
  obtain ⟨X, k1, k2, k3, k4, k5⟩ := rt_l (d := d) (m := m) (p := p) (by omega) hsto h18 hn hp r1 r2 (fun w => w < np ∧ mt (.mulL 0 (T p)) (P w)) (by
    rintro i w ⟨h1, h2⟩ h3
    obtain ⟨h4, j, h5, h6, h7⟩ := (r3 i h1 w).mp h3
    refine ⟨⟨h4, st_iffr.mpr ?_⟩, ?_⟩
    · by_cases hj : P j = []
      · rw [h6, hj, List.append_nil]
        exact st_iffr.mp h2
      · exact Or.inr ⟨P i, P j, hj, h6, h2, h7⟩
    · rcases Nat.lt_or_ge w i with h8 | h8
      · have h9 := hP w i h8 h1
        have hl := congrArg List.length h6
        rw [List.length_append] at hl
        rcases Nat.lt_or_ge (P i).length (P w).length with h10 | h10
        · have := (wlen_lt (hPk i h1).1 (hPk w h4).1 h10).1
          omega
        · have : P j = [] := List.length_eq_zero_iff.mp (by omega)
          rw [this, List.append_nil] at h6
          rw [h6] at h9; omega
      · exact h8) 60 0 1 (by omega) (by omega) (by decide) (by
    intro w hw
    rw [show (1 : Nat) = 2 ^ 0 from rfl, Nat.testBit_two_pow, decide_eq_true_eq] at hw
    subst hw
    exact ⟨by omega, st_iffr.mpr (Or.inl hP0)⟩) (fun i hi => by omega)
  have : X = tbn P (.mulL 0 (T p)) np := by
    apply tbn_of
    intro w
    refine ⟨k4 w, ?_⟩
    have key : ∀ L w, (P w).length ≤ L → w < np → mt (.mulL 0 (T p)) (P w) → X.testBit w = true := by
      intro L
      induction L with
      | zero =>
        intro w h1 h2 _
        have h3 : P w = [] := List.length_eq_zero_iff.mp (by omega)
        have := spc_inj hP h2 (show 0 < np by omega) (h3.trans hP0.symm)
        subst this; exact k3
      | succ L ih =>
        intro w h1 h2 h3
        rcases st_iffr.mp h3 with h4 | ⟨u, v, h4, h5, h6, h7⟩
        · have := spc_inj hP h2 (show 0 < np by omega) (h4.trans hP0.symm)
          subst this; exact k3
        · have hl := congrArg List.length h5
          rw [List.length_append] at hl
          have hv : 0 < v.length := List.length_pos_iff.mpr h4
          obtain ⟨⟨i, i1, rfl⟩, ⟨j, j1, rfl⟩⟩ := fcl_app hfcl h2 h5
          have h8 := ih i (by omega) i1 h6
          exact k5 i (by omega) h8 w ((r3 i i1 w).mpr ⟨h2, j, j1, h5, h7⟩)
    exact fun hw => key _ w (Nat.le_refl _) hw.1 hw.2
  rw [← this, zs_X6_repeatTable]
  refine Eq.trans ?_ k1
  simp (disch := omega) only [ze_X6_repeatTable_0, ze_X6_repeatTable_10, ze_X6_repeatTable_13, ze_X6_repeatTable_20, ze_X6_repeatTable_31, ze_X6_repeatTable_36, ze_X6_repeatTable_38, ze_X6_repeatTable_41, ze_X6_repeatTable_43, ze_X6_repeatTable_49, zcal_x, zfh_nil, zfh_cons, zset_0, zset_1, zset_s, zcal_v, zcal_n, zcalI_n, zco_O, zcf_O, zcs_O, zisc_O, zr8_A, zr8_S, zri_A, zri_B, zri_C, zrl_L, zrd_D, zrs_R, zgi_A, zgi_S, zgi_B, zgi_C, zgl_L, zgd_D, zisa_A, zisa_S, zisa_L, zisa_B, zisa_R, zln_A, zln_S, zln_L, zln_B, zln_R, zwi_A, zwl_L, zwd_D, zclr_i, zclr_r, zclr_l, zclr_d, zclr_n, zok_i, zok_l, zok_b0, zok_b1, I_add, I_sub, I_mul, I_neg, J_add, J_sub, J_mul, J_toI, I_ofNat, I_cl, I_J, I_ne2, zup_same, zup_up, zup_ne, zc1_eqB, zc1_neB, zret_b, zret_b0, zret_b1, List.getD_cons_zero, List.getD_cons_succ, List.length_cons, List.length_nil, List.set_cons_zero, List.set_cons_succ, Option.toList, List.cons_append, List.nil_append, Int.cast_ofNat_Int, decide_eq_true_eq, Bool.and_eq_true, and_self, true_and, and_true, if_true, if_false, not_true_eq_false, not_false_eq_true, ↓reduceIte, Nat.reduceAdd, Nat.reduceLT, Nat.reduceLeDiff, Nat.reduceEqDiff, Int.reduceAdd, Int.reduceSub, Int.reduceMul, Int.reduceNeg, Int.reduceLT, Int.reduceLE, Int.reduceEq, Int.reduceToNat, Int.toNat_natCast, Nat.lt_add_one, Nat.zero_lt_succ, q1_eq_t, q1_eq_f, q2_eq_t, q2_eq_f, ql_eq_t, ql_eq_f, q1_ne_t, q1_ne_f, q2_ne_t, q2_ne_f, ql_ne_t, ql_ne_f, q1_lt_t, q1_lt_f, q2_lt_t, q2_lt_f, ql_lt_t, ql_lt_f, q1_ge_t, q1_ge_f, q2_ge_t, q2_ge_f, ql_ge_t, ql_ge_f, q1_gt_t, q1_gt_f, q2_gt_t, q2_gt_f, ql_gt_t, ql_gt_f, q1_le_t, q1_le_f, q2_le_t, q2_le_f, ql_le_t, ql_le_f, zib_t, qb_t, qb_f, nk_add, nk_mul, nk_sub, nk_d1, nk_d0, nk_toNat, nk_r1, nk_l1, nk_m1, nk_n1, nk_s1, nk_t1, nk_r2, nk_l2, nk_m2, nk_n2, nk_s2, nk_t2, nk_r3, nk_l3, nk_m3, nk_n3, nk_s3, nk_t3, nk_r4, nk_l4, nk_m4, nk_n4, nk_s4, nk_t4, nk_r6, nk_l6, nk_m6, nk_n6, nk_s6, nk_t6, nk_r7, nk_l7, nk_m7, nk_n7, nk_s7, nk_t7, nk_r8, nk_l8, nk_m8, nk_n8, nk_s8, nk_t8, nk_r12, nk_l12, nk_m12, nk_n12, nk_s12, nk_t12, nk_r31, nk_l31, nk_m31, nk_n31, nk_s31, nk_t31, nk_r32, nk_l32, nk_m32, nk_n32, nk_s32, nk_t32, nk_r59, nk_l59, nk_m59, nk_n59, nk_s59, nk_t59, nk_r60, nk_l60, nk_m60, nk_n60, nk_s60, nk_t60, nk_r96, nk_l96, nk_m96, nk_n96, nk_s96, nk_t96, nk_r97, nk_l97, nk_m97, nk_n97, nk_s97, nk_t97, nk_r120, nk_l120, nk_m120, nk_n120, nk_s120, nk_t120, nk_r240, nk_l240, nk_m240, nk_n240, nk_s240, nk_t240, nk_r255, nk_l255, nk_m255, nk_n255, nk_s255, nk_t255, nk_r256, nk_l256, nk_m256, nk_n256, nk_s256, nk_t256, Nat.add_zero, Nat.zero_add, Nat.mul_one, Nat.one_mul, Nat.mul_zero, Nat.zero_mul, Nat.sub_zero, Nat.reduceSub, Nat.reduceMul, Nat.add_sub_cancel, Bool.false_eq_true, Int.add_zero, Int.zero_add, Int.sub_zero]
end
