/-! SPECS: a whole look of the class -/
theorem zfold_pres {o : Nat → Nat → Nat → Nat → zW → zW} {pr : Nat} (Q : zW → Prop) (ho : ∀ k a b s, Q s → Q (o k a b pr s)) {C : Nat → Nat} : ∀ s, Q s → Q (zgo o C pr s) := by
  have h1 : ∀ (E : Nat → Nat × Nat × Nat × Nat) (k c : Nat) (n : Nat) (s : zW), Q s → Q (zwr o E k c pr n s) := by
    intro E k c n
    induction n with
    | zero => intro s h; exact h
    | succ n ih =>
      intro s h
      rw [zwr_s]
      split
      · exact ho _ _ _ _ (ih s h)
      · exact ih s h
  have h2 : ∀ (E : Nat → Nat × Nat × Nat × Nat) (k c p : Nat) (n : Nat) (s : zW), Q s → Q (zjq o E k c pr p n s) := by
    intro E k c p n
    induction n with
    | zero => intro s h; exact h
    | succ n ih =>
      intro s h
      rw [zjq_s]
      split
      · exact ho _ _ _ _ (ih s h)
      · exact ih s h
  have h3 : ∀ (E : Nat → Nat × Nat × Nat × Nat) (k c N : Nat) (n : Nat) (s : zW), Q s → Q (zjo o E k c pr N n s) := by
    intro E k c N n
    induction n with
    | zero => intro s h; exact h
    | succ n ih =>
      intro s h
      exact h2 E k c n N _ (ih s h)
  have h4 : ∀ (E : Nat → Nat × Nat × Nat × Nat) (N : Nat) (n : Nat) (s : zW), Q s → Q (zkd o C pr N E n s) := by
    intro E N n
    induction n with
    | zero => intro s h; exact h
    | succ n ih =>
      intro s h
      rw [zkd_s]
      split
      · exact h1 _ _ _ _ _ (ih s h)
      · exact h3 _ _ _ _ _ _ (ih s h)
  intro s h
  refine h4 _ _ _ _ ?_
  have g1 : Q (if C 0 = pr then o 0 0 0 pr s else s) := by
    split
    · exact ho _ _ _ _ h
    · exact h
  have g2 : Q (if C 1 = pr then o 1 0 0 pr (if C 0 = pr then o 0 0 0 pr s else s) else (if C 0 = pr then o 0 0 0 pr s else s)) := by
    split
    · exact ho _ _ _ _ g1
    · exact g1
  unfold zlv
  dsimp only
  split
  · exact ho _ _ _ _ (ho _ _ _ _ (ho _ _ _ _ g2))
  · exact g2
theorem zgo_congr {o : Nat → Nat → Nat → Nat → zW → zW} {C D : Nat → Nat} (h : ∀ k, k < 7 → C k = D k) {pr : Nat} {s : zW} : zgo o C pr s = zgo o D pr s := by
  have h1 : zlv o C pr s = zlv o D pr s := by
    unfold zlv
    rw [h 0 (by omega), h 1 (by omega), h 2 (by omega)]
  have h2 : ∀ (E : Nat → Nat × Nat × Nat × Nat) (N j : Nat) (s : zW), j ≤ 4 → zkd o C pr N E j s = zkd o D pr N E j s := by
    intro E N j
    induction j with
    | zero => intro s _; rfl
    | succ j ih =>
      intro s hj
      rw [zkd_s, zkd_s, ih s (by omega), h (j + 3) (by omega)]
  unfold zgo
  rw [h1, h2 _ _ _ _ (Nat.le_refl _)]
theorem zse_congr {o : Nat → Nat → Nat → Nat → zW → zW} {C D : Nat → Nat} (h : ∀ k, k < 7 → C k = D k) : ∀ pr, zse o C pr = zse o D pr
  | 0 => rfl
  | pr + 1 => by
    show zgo o C (pr + 1) (zse o C pr) = zgo o D (pr + 1) (zse o D pr)
    rw [zse_congr h pr, zgo_congr h]
/-- the store, whatever it holds -/
def SW (f : zF) (n : Nat) : Prop := ∃ (KS FS SS NS TS SL WT : Nat → Int) (TB : Nat → Nat), sto f n KS FS SS NS TS (fun k => (TB k : Int)) ∧ f 18 = some (kR 7 120 (fun k => 19 + k)) ∧ f 139 = some (kA 256 SL) ∧ f 140 = some (kA 60 WT) ∧ (∀ k, k < 120 → ∃ Q, f (19 + k) = some (kL 60 Q)) ∧ CUW f ∧ n ≤ 120
def SRW (f : zF) (n : Nat) : Prop := (∃ w u : Int64, f 10 = some (kO 5 [.ref 11, .ref 145, .ref 146, .long w, .long u])) ∧ (∃ D : Nat → Nat, f 145 = some (kA 7 (fun k => (D k : Int)))) ∧ (∃ CH : Nat → Nat, f 146 = some (kA 62 (fun k => (CH k : Int)))) ∧ SW f n
theorem CUD_CUW {f : zF} {P : Nat → List Nat} {np cn : Nat} {D : Nat → Nat → Prop} (h : CUD f P np cn D) : CUW f := by
  obtain ⟨FR, BK, WH, c1, c2, c3, c4, -⟩ := h
  exact ⟨FR, BK, WH, (cn : Int), c1, c2, c3, c4⟩
theorem SO_SW {f : zF} {P : Nat → List Nat} {np n : Nat} {E : Nat → Nat × Nat × Nat × Nat} {T : Nat → zE} (h : SO f P np n E T) (hc : CUW f) : SW f n := by
  obtain ⟨KS, FS, SS, NS, TS, SL, WT, TB, hsto, h18, h139, h140, hrw, hrk, hSL, hn, hE⟩ := h
  exact ⟨KS, FS, SS, NS, TS, SL, WT, TB, hsto, h18, h139, h140, hrw, hc, hn⟩
theorem SI_SRW {f : zF} {P X : Nat → List Nat} {np nX : Nat} {G : Nat → Bool} {C CH : Nat → Nat} {s : zW} (h : SI f P np nX X G C CH s) : SRW f s.1 := by
  obtain ⟨⟨W, U, cn, x10, -, -, -, -, w5, -⟩, x145, x146, hSO⟩ := h
  exact ⟨⟨_, _, x10⟩, ⟨C, x145⟩, ⟨CH, x146⟩, SO_SW hSO (CUD_CUW w5)⟩
theorem cz_0 : ∀ k, cz (fun _ => 0) k = k
  | 0 => rfl
  | k + 1 => by
    show (if (0 : Int) = 0 then cz (fun _ => 0) k + 1 else _) = _
    rw [if_pos rfl, cz_0 k]
theorem cz_ext {A B : Nat → Int} : ∀ k, (∀ i, i < k → A i = B i) → cz A k = cz B k
  | 0, _ => rfl
  | k + 1, h => by
    have e1 : cz A (k + 1) = if A k = 0 then cz A k + 1 else cz A k := rfl
    have e2 : cz B (k + 1) = if B k = 0 then cz B k + 1 else cz B k := rfl
    rw [e1, e2, cz_ext k (fun i hi => h i (by omega)), h k (by omega)]
section
variable {d np nX p n : Nat} {f : zF} {m : zM} {P X : Nat → List Nat} {G : Nat → Bool} {C CH : Nat → Nat} {s s0 : zW} {pr : Nat}
theorem be_l {v : List Value} (h11 : f 11 = some (kO 6 [.ref 12, .ref 13, .ref 14, .ref 15, .ref 16, .ref 17, .ref 18, .ref 139, .ref 140, .ref 141, .int (I 0)])) (h141 : f 141 = some (kO 0 v)) {SL : Nat → Int} {a1 : Nat} : ∀ j i : Nat, i + j = 256 → zex zTb d zqX6_becomeEmpty 7 [.ref 11, .ref a1, .int (I i)] [] (zup f 139 (kA 256 (pcp (fun _ => 0) SL i))) m = zcal zTb (zrun zTb d 1 [.ref 141, .ref a1] (zup f 139 (kA 256 (pcp (fun _ => 0) SL 256))) m) d zqX6_becomeEmpty 34 37 [.ref 11, .ref a1, .int (I 256)] [] := by
  intro j
  induction j with
  | zero =>
    intro i hi
    obtain rfl : i = 256 := by omega
    rw [ze_X6_becomeEmpty_7]
    simp (disch := omega) only [ze_X6_becomeEmpty_0, ze_X6_becomeEmpty_5, ze_X6_becomeEmpty_12, ze_X6_becomeEmpty_13, ze_X6_becomeEmpty_16, ze_X6_becomeEmpty_20, ze_X6_becomeEmpty_23, ze_X6_becomeEmpty_29, ze_X6_becomeEmpty_33, ze_X6_becomeEmpty_37, zcal_x, zfh_nil, zfh_cons, zset_0, zset_1, zset_s, zcal_v, zcal_n, zcalI_n, zco_O, zcf_O, zcs_O, zisc_O, zr8_A, zr8_S, zri_A, zri_B, zri_C, zrl_L, zrd_D, zrs_R, zgi_A, zgi_S, zgi_B, zgi_C, zgl_L, zgd_D, zisa_A, zisa_S, zisa_L, zisa_B, zisa_R, zln_A, zln_S, zln_L, zln_B, zln_R, zwi_A, zwl_L, zwd_D, zclr_i, zclr_r, zclr_l, zclr_d, zclr_n, zok_i, zok_l, zok_b0, zok_b1, I_add, I_sub, I_mul, I_neg, J_add, J_sub, J_mul, J_toI, I_ofNat, I_cl, I_J, I_ne2, zup_same, zup_up, zup_ne, zc1_eqB, zc1_neB, zret_b, zret_b0, zret_b1, List.getD_cons_zero, List.getD_cons_succ, List.length_cons, List.length_nil, List.set_cons_zero, List.set_cons_succ, Option.toList, List.cons_append, List.nil_append, Int.cast_ofNat_Int, decide_eq_true_eq, Bool.and_eq_true, and_self, true_and, and_true, if_true, if_false, not_true_eq_false, not_false_eq_true, ↓reduceIte, Nat.reduceAdd, Nat.reduceLT, Nat.reduceLeDiff, Nat.reduceEqDiff, Int.reduceAdd, Int.reduceSub, Int.reduceMul, Int.reduceNeg, Int.reduceLT, Int.reduceLE, Int.reduceEq, Int.reduceToNat, Int.toNat_natCast, Nat.lt_add_one, Nat.zero_lt_succ, q1_eq_t, q1_eq_f, q2_eq_t, q2_eq_f, ql_eq_t, ql_eq_f, q1_ne_t, q1_ne_f, q2_ne_t, q2_ne_f, ql_ne_t, ql_ne_f, q1_lt_t, q1_lt_f, q2_lt_t, q2_lt_f, ql_lt_t, ql_lt_f, q1_ge_t, q1_ge_f, q2_ge_t, q2_ge_f, ql_ge_t, ql_ge_f, q1_gt_t, q1_gt_f, q2_gt_t, q2_gt_f, ql_gt_t, ql_gt_f, q1_le_t, q1_le_f, q2_le_t, q2_le_f, ql_le_t, ql_le_f, zib_t, qb_t, qb_f, nk_add, nk_mul, nk_sub, nk_d1, nk_d0, nk_toNat, nk_r1, nk_l1, nk_m1, nk_n1, nk_s1, nk_t1, nk_r2, nk_l2, nk_m2, nk_n2, nk_s2, nk_t2, nk_r3, nk_l3, nk_m3, nk_n3, nk_s3, nk_t3, nk_r4, nk_l4, nk_m4, nk_n4, nk_s4, nk_t4, nk_r6, nk_l6, nk_m6, nk_n6, nk_s6, nk_t6, nk_r7, nk_l7, nk_m7, nk_n7, nk_s7, nk_t7, nk_r8, nk_l8, nk_m8, nk_n8, nk_s8, nk_t8, nk_r12, nk_l12, nk_m12, nk_n12, nk_s12, nk_t12, nk_r31, nk_l31, nk_m31, nk_n31, nk_s31, nk_t31, nk_r32, nk_l32, nk_m32, nk_n32, nk_s32, nk_t32, nk_r59, nk_l59, nk_m59, nk_n59, nk_s59, nk_t59, nk_r60, nk_l60, nk_m60, nk_n60, nk_s60, nk_t60, nk_r96, nk_l96, nk_m96, nk_n96, nk_s96, nk_t96, nk_r97, nk_l97, nk_m97, nk_n97, nk_s97, nk_t97, nk_r120, nk_l120, nk_m120, nk_n120, nk_s120, nk_t120, nk_r240, nk_l240, nk_m240, nk_n240, nk_s240, nk_t240, nk_r255, nk_l255, nk_m255, nk_n255, nk_s255, nk_t255, nk_r256, nk_l256, nk_m256, nk_n256, nk_s256, nk_t256, Nat.add_zero, Nat.zero_add, Nat.mul_one, Nat.one_mul, Nat.mul_zero, Nat.zero_mul, Nat.sub_zero, Nat.reduceSub, Nat.reduceMul, Nat.add_sub_cancel, Bool.false_eq_true, Int.add_zero, Int.zero_add, Int.sub_zero, h11, h141]
  | succ j ih =>
    intro i hi
    have := pcp_step (b := fun _ => 0) (a := SL) (i := i)
    rw [ze_X6_becomeEmpty_7]
    refine Eq.trans ?_ (ih (i + 1) (by omega))
    simp (disch := omega) only [ze_X6_becomeEmpty_0, ze_X6_becomeEmpty_5, ze_X6_becomeEmpty_12, ze_X6_becomeEmpty_13, ze_X6_becomeEmpty_16, ze_X6_becomeEmpty_20, ze_X6_becomeEmpty_23, ze_X6_becomeEmpty_29, ze_X6_becomeEmpty_33, ze_X6_becomeEmpty_37, zcal_x, zfh_nil, zfh_cons, zset_0, zset_1, zset_s, zcal_v, zcal_n, zcalI_n, zco_O, zcf_O, zcs_O, zisc_O, zr8_A, zr8_S, zri_A, zri_B, zri_C, zrl_L, zrd_D, zrs_R, zgi_A, zgi_S, zgi_B, zgi_C, zgl_L, zgd_D, zisa_A, zisa_S, zisa_L, zisa_B, zisa_R, zln_A, zln_S, zln_L, zln_B, zln_R, zwi_A, zwl_L, zwd_D, zclr_i, zclr_r, zclr_l, zclr_d, zclr_n, zok_i, zok_l, zok_b0, zok_b1, I_add, I_sub, I_mul, I_neg, J_add, J_sub, J_mul, J_toI, I_ofNat, I_cl, I_J, I_ne2, zup_same, zup_up, zup_ne, zc1_eqB, zc1_neB, zret_b, zret_b0, zret_b1, List.getD_cons_zero, List.getD_cons_succ, List.length_cons, List.length_nil, List.set_cons_zero, List.set_cons_succ, Option.toList, List.cons_append, List.nil_append, Int.cast_ofNat_Int, decide_eq_true_eq, Bool.and_eq_true, and_self, true_and, and_true, if_true, if_false, not_true_eq_false, not_false_eq_true, ↓reduceIte, Nat.reduceAdd, Nat.reduceLT, Nat.reduceLeDiff, Nat.reduceEqDiff, Int.reduceAdd, Int.reduceSub, Int.reduceMul, Int.reduceNeg, Int.reduceLT, Int.reduceLE, Int.reduceEq, Int.reduceToNat, Int.toNat_natCast, Nat.lt_add_one, Nat.zero_lt_succ, q1_eq_t, q1_eq_f, q2_eq_t, q2_eq_f, ql_eq_t, ql_eq_f, q1_ne_t, q1_ne_f, q2_ne_t, q2_ne_f, ql_ne_t, ql_ne_f, q1_lt_t, q1_lt_f, q2_lt_t, q2_lt_f, ql_lt_t, ql_lt_f, q1_ge_t, q1_ge_f, q2_ge_t, q2_ge_f, ql_ge_t, ql_ge_f, q1_gt_t, q1_gt_f, q2_gt_t, q2_gt_f, ql_gt_t, ql_gt_f, q1_le_t, q1_le_f, q2_le_t, q2_le_f, ql_le_t, ql_le_f, zib_t, qb_t, qb_f, nk_add, nk_mul, nk_sub, nk_d1, nk_d0, nk_toNat, nk_r1, nk_l1, nk_m1, nk_n1, nk_s1, nk_t1, nk_r2, nk_l2, nk_m2, nk_n2, nk_s2, nk_t2, nk_r3, nk_l3, nk_m3, nk_n3, nk_s3, nk_t3, nk_r4, nk_l4, nk_m4, nk_n4, nk_s4, nk_t4, nk_r6, nk_l6, nk_m6, nk_n6, nk_s6, nk_t6, nk_r7, nk_l7, nk_m7, nk_n7, nk_s7, nk_t7, nk_r8, nk_l8, nk_m8, nk_n8, nk_s8, nk_t8, nk_r12, nk_l12, nk_m12, nk_n12, nk_s12, nk_t12, nk_r31, nk_l31, nk_m31, nk_n31, nk_s31, nk_t31, nk_r32, nk_l32, nk_m32, nk_n32, nk_s32, nk_t32, nk_r59, nk_l59, nk_m59, nk_n59, nk_s59, nk_t59, nk_r60, nk_l60, nk_m60, nk_n60, nk_s60, nk_t60, nk_r96, nk_l96, nk_m96, nk_n96, nk_s96, nk_t96, nk_r97, nk_l97, nk_m97, nk_n97, nk_s97, nk_t97, nk_r120, nk_l120, nk_m120, nk_n120, nk_s120, nk_t120, nk_r240, nk_l240, nk_m240, nk_n240, nk_s240, nk_t240, nk_r255, nk_l255, nk_m255, nk_n255, nk_s255, nk_t255, nk_r256, nk_l256, nk_m256, nk_n256, nk_s256, nk_t256, Nat.add_zero, Nat.zero_add, Nat.mul_one, Nat.one_mul, Nat.mul_zero, Nat.zero_mul, Nat.sub_zero, Nat.reduceSub, Nat.reduceMul, Nat.add_sub_cancel, Bool.false_eq_true, Int.add_zero, Int.zero_add, Int.sub_zero, h11, this]
theorem s_becomeEmpty (hd : 6 ≤ d) (hp : p + 1 < 11) (hfcl : fcl P np) (h : SW f n) (hpc : pcs f p P np) (E : Nat → Nat × Nat × Nat × Nat) (T : Nat → zE) : ∃ (f' : zF) (cn : Nat), zrun zTb d 53 [.ref 11, .ref p] f m = some (.inl none, f', m) ∧ fre 11 144 f f' ∧ cn ≤ 420 ∧ CUD f' P np cn (fun w _ => w < np) ∧ SO f' P np 0 E T := by
  obtain ⟨d, rfl⟩ : ∃ e, d = e + 1 := ⟨d - 1, by omega⟩
  obtain ⟨KS, FS, SS, NS, TS, SL, WT, TB, ⟨s0, s1, s2, s3, s4, s5, s6⟩, h18, h139, h140, hrw, hcu, hn⟩ := h
  obtain ⟨FR, BK, WH, cn0, c1, c2, c3, c4⟩ := id hcu
  let g := zup f 11 (kO 6 [.ref 12, .ref 13, .ref 14, .ref 15, .ref 16, .ref 17, .ref 18, .ref 139, .ref 140, .ref 141, .int (I 0)])
  have e1 := be_l (d := d) (m := m) (f := g) (SL := SL) (a1 := p) (v := [.ref 142, .ref 143, .ref 144, .int (I cn0)]) zup_same (by simp (disch := omega) only [g, zup_ne, c1]) 256 0 (by omega)
  rw [pcp_zero, zup_self (p := 139) (by simp (disch := omega) only [g, zup_ne, h139])] at e1
  have hf1 : fre 11 144 f (zup g 139 (kA 256 (pcp (fun _ => 0) SL 256))) := fre_zup (fre_up (by omega) (by omega)) (by omega) (by omega)
  obtain ⟨f', cn, e2, k2, k3, k4⟩ := s_cutread (d := d) (m := m) (f := zup g 139 (kA 256 (pcp (fun _ => 0) SL 256))) (P := P) (np := np) (p := p) (by omega) (by omega) hfcl ⟨FR, BK, WH, cn0, by simp (disch := omega) only [g, zup_ne, c1], by simp (disch := omega) only [g, zup_ne, c2], by simp (disch := omega) only [g, zup_ne, c3], by simp (disch := omega) only [g, zup_ne, c4]⟩ (pcs_fre hf1 (by omega) hpc)
  refine ⟨f', cn, ?_, fre_trans hf1 (fre_mono k2 (by omega) (by omega)), k3, k4, ⟨KS, FS, SS, NS, TS, pcp (fun _ => 0) SL 256, WT, TB, ⟨?_, ?_, ?_, ?_, ?_, ?_, ?_⟩, ?_, ?_, ?_, fun k hk => ?_, fun k hk => by omega, ⟨fun s' hs' => Or.inl (if_pos hs'), fun N hN => ?_, fun k hk => by omega⟩, by omega, fun k hk => by omega⟩⟩
  · rw [zs_X6_becomeEmpty]
    simp (disch := omega) only [ze_X6_becomeEmpty_0, ze_X6_becomeEmpty_5, ze_X6_becomeEmpty_12, ze_X6_becomeEmpty_13, ze_X6_becomeEmpty_16, ze_X6_becomeEmpty_20, ze_X6_becomeEmpty_23, ze_X6_becomeEmpty_29, ze_X6_becomeEmpty_33, ze_X6_becomeEmpty_37, zcal_x, zfh_nil, zfh_cons, zset_0, zset_1, zset_s, zcal_v, zcal_n, zcalI_n, zco_O, zcf_O, zcs_O, zisc_O, zr8_A, zr8_S, zri_A, zri_B, zri_C, zrl_L, zrd_D, zrs_R, zgi_A, zgi_S, zgi_B, zgi_C, zgl_L, zgd_D, zisa_A, zisa_S, zisa_L, zisa_B, zisa_R, zln_A, zln_S, zln_L, zln_B, zln_R, zwi_A, zwl_L, zwd_D, zclr_i, zclr_r, zclr_l, zclr_d, zclr_n, zok_i, zok_l, zok_b0, zok_b1, I_add, I_sub, I_mul, I_neg, J_add, J_sub, J_mul, J_toI, I_ofNat, I_cl, I_J, I_ne2, zup_same, zup_up, zup_ne, zc1_eqB, zc1_neB, zret_b, zret_b0, zret_b1, List.getD_cons_zero, List.getD_cons_succ, List.length_cons, List.length_nil, List.set_cons_zero, List.set_cons_succ, Option.toList, List.cons_append, List.nil_append, Int.cast_ofNat_Int, decide_eq_true_eq, Bool.and_eq_true, and_self, true_and, and_true, if_true, if_false, not_true_eq_false, not_false_eq_true, ↓reduceIte, Nat.reduceAdd, Nat.reduceLT, Nat.reduceLeDiff, Nat.reduceEqDiff, Int.reduceAdd, Int.reduceSub, Int.reduceMul, Int.reduceNeg, Int.reduceLT, Int.reduceLE, Int.reduceEq, Int.reduceToNat, Int.toNat_natCast, Nat.lt_add_one, Nat.zero_lt_succ, q1_eq_t, q1_eq_f, q2_eq_t, q2_eq_f, ql_eq_t, ql_eq_f, q1_ne_t, q1_ne_f, q2_ne_t, q2_ne_f, ql_ne_t, ql_ne_f, q1_lt_t, q1_lt_f, q2_lt_t, q2_lt_f, ql_lt_t, ql_lt_f, q1_ge_t, q1_ge_f, q2_ge_t, q2_ge_f, ql_ge_t, ql_ge_f, q1_gt_t, q1_gt_f, q2_gt_t, q2_gt_f, ql_gt_t, ql_gt_f, q1_le_t, q1_le_f, q2_le_t, q2_le_f, ql_le_t, ql_le_f, zib_t, qb_t, qb_f, nk_add, nk_mul, nk_sub, nk_d1, nk_d0, nk_toNat, nk_r1, nk_l1, nk_m1, nk_n1, nk_s1, nk_t1, nk_r2, nk_l2, nk_m2, nk_n2, nk_s2, nk_t2, nk_r3, nk_l3, nk_m3, nk_n3, nk_s3, nk_t3, nk_r4, nk_l4, nk_m4, nk_n4, nk_s4, nk_t4, nk_r6, nk_l6, nk_m6, nk_n6, nk_s6, nk_t6, nk_r7, nk_l7, nk_m7, nk_n7, nk_s7, nk_t7, nk_r8, nk_l8, nk_m8, nk_n8, nk_s8, nk_t8, nk_r12, nk_l12, nk_m12, nk_n12, nk_s12, nk_t12, nk_r31, nk_l31, nk_m31, nk_n31, nk_s31, nk_t31, nk_r32, nk_l32, nk_m32, nk_n32, nk_s32, nk_t32, nk_r59, nk_l59, nk_m59, nk_n59, nk_s59, nk_t59, nk_r60, nk_l60, nk_m60, nk_n60, nk_s60, nk_t60, nk_r96, nk_l96, nk_m96, nk_n96, nk_s96, nk_t96, nk_r97, nk_l97, nk_m97, nk_n97, nk_s97, nk_t97, nk_r120, nk_l120, nk_m120, nk_n120, nk_s120, nk_t120, nk_r240, nk_l240, nk_m240, nk_n240, nk_s240, nk_t240, nk_r255, nk_l255, nk_m255, nk_n255, nk_s255, nk_t255, nk_r256, nk_l256, nk_m256, nk_n256, nk_s256, nk_t256, Nat.add_zero, Nat.zero_add, Nat.mul_one, Nat.one_mul, Nat.mul_zero, Nat.zero_mul, Nat.sub_zero, Nat.reduceSub, Nat.reduceMul, Nat.add_sub_cancel, Bool.false_eq_true, Int.add_zero, Int.zero_add, Int.sub_zero, s0, zfty_6_10]
    rw [show (zup f 11 (kO 6 [.ref 12, .ref 13, .ref 14, .ref 15, .ref 16, .ref 17, .ref 18, .ref 139, .ref 140, .ref 141, .int (I 0)])) = g from rfl]
    refine Eq.trans e1 ?_
    rw [e2]
    simp (disch := omega) only [ze_X6_becomeEmpty_0, ze_X6_becomeEmpty_5, ze_X6_becomeEmpty_12, ze_X6_becomeEmpty_13, ze_X6_becomeEmpty_16, ze_X6_becomeEmpty_20, ze_X6_becomeEmpty_23, ze_X6_becomeEmpty_29, ze_X6_becomeEmpty_33, ze_X6_becomeEmpty_37, zcal_x, zfh_nil, zfh_cons, zset_0, zset_1, zset_s, zcal_v, zcal_n, zcalI_n, zco_O, zcf_O, zcs_O, zisc_O, zr8_A, zr8_S, zri_A, zri_B, zri_C, zrl_L, zrd_D, zrs_R, zgi_A, zgi_S, zgi_B, zgi_C, zgl_L, zgd_D, zisa_A, zisa_S, zisa_L, zisa_B, zisa_R, zln_A, zln_S, zln_L, zln_B, zln_R, zwi_A, zwl_L, zwd_D, zclr_i, zclr_r, zclr_l, zclr_d, zclr_n, zok_i, zok_l, zok_b0, zok_b1, I_add, I_sub, I_mul, I_neg, J_add, J_sub, J_mul, J_toI, I_ofNat, I_cl, I_J, I_ne2, zup_same, zup_up, zup_ne, zc1_eqB, zc1_neB, zret_b, zret_b0, zret_b1, List.getD_cons_zero, List.getD_cons_succ, List.length_cons, List.length_nil, List.set_cons_zero, List.set_cons_succ, Option.toList, List.cons_append, List.nil_append, Int.cast_ofNat_Int, decide_eq_true_eq, Bool.and_eq_true, and_self, true_and, and_true, if_true, if_false, not_true_eq_false, not_false_eq_true, ↓reduceIte, Nat.reduceAdd, Nat.reduceLT, Nat.reduceLeDiff, Nat.reduceEqDiff, Int.reduceAdd, Int.reduceSub, Int.reduceMul, Int.reduceNeg, Int.reduceLT, Int.reduceLE, Int.reduceEq, Int.reduceToNat, Int.toNat_natCast, Nat.lt_add_one, Nat.zero_lt_succ, q1_eq_t, q1_eq_f, q2_eq_t, q2_eq_f, ql_eq_t, ql_eq_f, q1_ne_t, q1_ne_f, q2_ne_t, q2_ne_f, ql_ne_t, ql_ne_f, q1_lt_t, q1_lt_f, q2_lt_t, q2_lt_f, ql_lt_t, ql_lt_f, q1_ge_t, q1_ge_f, q2_ge_t, q2_ge_f, ql_ge_t, ql_ge_f, q1_gt_t, q1_gt_f, q2_gt_t, q2_gt_f, ql_gt_t, ql_gt_f, q1_le_t, q1_le_f, q2_le_t, q2_le_f, ql_le_t, ql_le_f, zib_t, qb_t, qb_f, nk_add, nk_mul, nk_sub, nk_d1, nk_d0, nk_toNat, nk_r1, nk_l1, nk_m1, nk_n1, nk_s1, nk_t1, nk_r2, nk_l2, nk_m2, nk_n2, nk_s2, nk_t2, nk_r3, nk_l3, nk_m3, nk_n3, nk_s3, nk_t3, nk_r4, nk_l4, nk_m4, nk_n4, nk_s4, nk_t4, nk_r6, nk_l6, nk_m6, nk_n6, nk_s6, nk_t6, nk_r7, nk_l7, nk_m7, nk_n7, nk_s7, nk_t7, nk_r8, nk_l8, nk_m8, nk_n8, nk_s8, nk_t8, nk_r12, nk_l12, nk_m12, nk_n12, nk_s12, nk_t12, nk_r31, nk_l31, nk_m31, nk_n31, nk_s31, nk_t31, nk_r32, nk_l32, nk_m32, nk_n32, nk_s32, nk_t32, nk_r59, nk_l59, nk_m59, nk_n59, nk_s59, nk_t59, nk_r60, nk_l60, nk_m60, nk_n60, nk_s60, nk_t60, nk_r96, nk_l96, nk_m96, nk_n96, nk_s96, nk_t96, nk_r97, nk_l97, nk_m97, nk_n97, nk_s97, nk_t97, nk_r120, nk_l120, nk_m120, nk_n120, nk_s120, nk_t120, nk_r240, nk_l240, nk_m240, nk_n240, nk_s240, nk_t240, nk_r255, nk_l255, nk_m255, nk_n255, nk_s255, nk_t255, nk_r256, nk_l256, nk_m256, nk_n256, nk_s256, nk_t256, Nat.add_zero, Nat.zero_add, Nat.mul_one, Nat.one_mul, Nat.mul_zero, Nat.zero_mul, Nat.sub_zero, Nat.reduceSub, Nat.reduceMul, Nat.add_sub_cancel, Bool.false_eq_true, Int.add_zero, Int.zero_add, Int.sub_zero]
  · rw [k2 11 (by omega)]; simp (disch := omega) only [g, zup_same, zup_ne]; rfl
  · rw [k2 12 (by omega)]; simp (disch := omega) only [g, zup_ne, s1]
  · rw [k2 13 (by omega)]; simp (disch := omega) only [g, zup_ne, s2]
  · rw [k2 14 (by omega)]; simp (disch := omega) only [g, zup_ne, s3]
  · rw [k2 15 (by omega)]; simp (disch := omega) only [g, zup_ne, s4]
  · rw [k2 16 (by omega)]; simp (disch := omega) only [g, zup_ne, s5]
  · rw [k2 17 (by omega)]; simp (disch := omega) only [g, zup_ne, s6]
  · rw [k2 18 (by omega)]; simp (disch := omega) only [g, zup_ne, h18]
  · rw [k2 139 (by omega)]; exact zup_same
  · rw [k2 140 (by omega)]; simp (disch := omega) only [g, zup_ne, h140]
  · obtain ⟨Q, hQ⟩ := hrw k hk
    exact ⟨Q, by rw [k2 (19 + k) (by omega)]; simp (disch := omega) only [g, zup_ne, hQ]⟩
  · rw [cz_ext (A := pcp (fun _ => 0) SL 256) (B := fun _ => 0) N (fun i hi => if_pos (by omega)), cz_0]
    omega
/-- the tables of the good and of the bad examples -/
theorem s_xtab {b : Bool} (hd : 4 ≤ d) (h : EX f n X G P np) (hm : ∀ e, e < n → pmem P np (X e)) : ∃ W : Nat, zrun zTb d 9 [.ref 2, .int (I (if b = true then 1 else 0))] f m = some (.inl (some (.long (J W))), f, m) ∧ W < 1152921504606846976 ∧ ∀ i, W.testBit i = true ↔ ∃ e, e < n ∧ G e = b ∧ i < np ∧ P i = X e := by
  obtain ⟨p, q, W, c, k, hpq, hex, hW, ⟨a, h1, h2, h3, h4, h5, h6⟩, hq, hqb, hn, hX⟩ := h
  have hR : ∃ R : Nat → Nat, ∀ e, e < n → psp a np (W e) (R e) := by
    have : ∀ e, ∃ r, e < n → psp a np (W e) r := by
      intro e
      by_cases he : e < n
      · obtain ⟨r, r1, r2, r3⟩ := spc_place (x := wpk (X e)) np h5
        refine ⟨r, fun _ => ⟨r1, fun i hi => ?_, fun i hi hi2 => ?_⟩⟩
        · rw [h3 i (by omega), hW e he]; have := r2 i hi; omega
        · rw [h3 i hi2, hW e he]; have := r3 i hi hi2; omega
      · exact ⟨0, fun z => absurd z he⟩
    exact Classical.axiomOfChoice this
  obtain ⟨R, hR⟩ := hR
  have hWb : ∀ i, i < n → 0 ≤ W i ∧ W i < 4611686018427387904 := by
    intro i hi
    have := wpk_48 (hX i hi).1 (hX i hi).2
    rw [hW i hi]; omega
  have e := s_X1_tableOf (d := d) (m := m) (b := b) hd hex hn h1 h2 h4 (pcs_prg h3 h6) hWb hR
  have hRp : ∀ e, e < n → R e < np ∧ P (R e) = X e := by
    intro e he
    obtain ⟨i, hi, hPi⟩ := hm e he
    obtain ⟨g1, g2, g3⟩ := hR e he
    have hai := h3 i hi
    rw [hPi, ← hW e he] at hai
    have hir : R e ≤ i := by
      rcases Nat.lt_or_ge i (R e) with h8 | h8
      · have := g2 i h8; omega
      · exact h8
    rcases Nat.lt_or_ge (R e) i with h8 | h8
    · have h9 := g3 (R e) (Nat.le_refl _) (by omega)
      have h10 := h5 (R e) i h8 hi
      rw [h3 (R e) (by omega), hW e he] at h9
      rw [hPi] at h10
      omega
    · have : R e = i := by omega
      rw [this]; exact ⟨hi, hPi⟩
  have key : ∀ k, k ≤ n → tbv W a G R np b k < 1152921504606846976 ∧ ∀ i, (tbv W a G R np b k).testBit i = true ↔ ∃ e, e < k ∧ G e = b ∧ i < np ∧ P i = X e := by
    intro k
    induction k with
    | zero =>
      intro _
      refine ⟨by unfold tbv; omega, fun i => ?_⟩
      unfold tbv
      rw [Nat.zero_testBit]
      exact ⟨fun z => (by cases z), fun ⟨e, he, _⟩ => by cases he⟩
    | succ k ih =>
      intro hk
      obtain ⟨i1, i2⟩ := ih (by omega)
      obtain ⟨g1, g2⟩ := hRp k (by omega)
      have ha : R k < np ∧ a (R k) = W k := ⟨g1, by rw [h3 _ g1, g2, hW k (by omega)]⟩
      have e2 : tbv W a G R np b (k + 1) = if G k = b then tbv W a G R np b k ||| (if R k < np ∧ a (R k) = W k then 2 ^ R k else 0) else tbv W a G R np b k := rfl
      rw [e2, if_pos ha]
      by_cases hg : G k = b
      · rw [if_pos hg]
        refine ⟨Nat.or_lt_two_pow (n := 60) i1 (bit60 (by omega)), fun i => ?_⟩
        rw [Nat.testBit_or, Bool.or_eq_true, i2, Nat.testBit_two_pow, decide_eq_true_eq]
        constructor
        · rintro (⟨e, j1, j2⟩ | rfl)
          · exact ⟨e, by omega, j2⟩
          · exact ⟨k, by omega, hg, g1, g2⟩
        · rintro ⟨e, j1, j2, j3, j4⟩
          by_cases hek : e = k
          · subst hek
            exact Or.inr (spc_inj h5 g1 j3 (g2.trans j4.symm))
          · exact Or.inl ⟨e, by omega, j2, j3, j4⟩
      · rw [if_neg hg]
        refine ⟨i1, fun i => ?_⟩
        rw [i2]
        constructor
        · rintro ⟨e, j1, j2⟩; exact ⟨e, by omega, j2⟩
        · rintro ⟨e, j1, j2, j3⟩
          by_cases hek : e = k
          · subst hek; exact absurd j2 hg
          · exact ⟨e, by omega, j2, j3⟩
  exact ⟨_, e, (key n (Nat.le_refl _)).1, (key n (Nat.le_refl _)).2⟩
end
