/-! SPECS: the class's examples -/
theorem qk13 {x : Nat} : zok (zfty 1 3) (.ref x) = true := rfl
theorem qk14 {x : Nat} : zok (zfty 1 4) (.ref x) = true := rfl
def EX (f : zF) (n : Nat) (X : Nat → List Nat) (G : Nat → Bool) (P : Nat → List Nat) (np : Nat) : Prop := ∃ (p q : Nat) (W b : Nat → Int) (k : Nat), ((p = 5 ∧ q = 7) ∨ (p = 7 ∧ q = 5)) ∧ exs f n W G p q ∧ (∀ i, i < n → W i = ((wpk (X i) : Nat) : Int)) ∧ pcs f p P np ∧ f q = some (kO 3 [.ref (q + 1), .int (I k)]) ∧ f (q + 1) = some (kL 60 b) ∧ n ≤ 10 ∧ wok X n
theorem EX_fre {a b n np : Nat} {f g : zF} {X P : Nat → List Nat} {G : Nat → Bool} (h : fre a b f g) (hab : 8 < a ∨ b < 2) (he : EX f n X G P np) : EX g n X G P np := by
  obtain ⟨p, q, W, c, k, h1, ⟨h2, h3, h4⟩, h5, h6, h7, h8, h9⟩ := he
  exact ⟨p, q, W, c, k, h1, ⟨(h _ (by omega)).trans h2, (h _ (by omega)).trans h3, (h _ (by omega)).trans h4⟩, h5, pcs_fre h (by omega) h6, (h _ (by omega)).trans h7, (h _ (by omega)).trans h8, h9⟩
theorem isp_mono {n : Nat} {X : Nat → List Nat} {w u : List Nat} (h : isp n X u) : isp (n + 1) (zst X n w) u := by
  rcases h with h | ⟨i, hi, a, b, h1, h2, h3⟩
  · exact Or.inl h
  · refine Or.inr ⟨i, by omega, a, b, h1, ?_, ?_⟩
    · rw [zst_ne (by omega)]; exact h2
    · rw [zst_ne (by omega)]; exact h3
theorem isp_new {n : Nat} {X : Nat → List Nat} {w : List Nat} {a b : Nat} (h : a < b) (h2 : b ≤ w.length) : isp (n + 1) (zst X n w) (wsl w a b) := Or.inr ⟨n, Nat.lt_succ_self _, a, b, h, by rw [zst_same]; exact h2, by rw [zst_same]⟩
theorem isp_split {n : Nat} {X : Nat → List Nat} {w u : List Nat} (h : isp (n + 1) (zst X n w) u) : isp n X u ∨ ∃ a b, a < b ∧ b ≤ w.length ∧ u = wsl w a b := by
  rcases h with h | ⟨i, hi, a, b, h1, h2, h3⟩
  · exact Or.inl (Or.inl h)
  · by_cases hn : i = n
    · subst hn
      rw [zst_same] at h2 h3
      exact Or.inr ⟨a, b, h1, h2, h3⟩
    · rw [zst_ne hn] at h2 h3
      exact Or.inl (Or.inr ⟨i, by omega, a, b, h1, h2, h3⟩)
theorem isp_sub {n i : Nat} {X : Nat → List Nat} {u : List Nat} (hi : i ≤ n) (h : isp i X u) : isp n X u := by
  rcases h with h | ⟨j, hj, h⟩
  · exact Or.inl h
  · exact Or.inr ⟨j, by omega, h⟩
theorem isp_step {n : Nat} {X : Nat → List Nat} {u : List Nat} : isp (n + 1) X u ↔ (isp n X u ∨ ∃ a b, a < b ∧ b ≤ (X n).length ∧ u = wsl (X n) a b) := by
  constructor
  · rintro (h | ⟨i, hi, h⟩)
    · exact Or.inl (Or.inl h)
    · by_cases hn : i = n
      · subst hn; exact Or.inr h
      · exact Or.inl (Or.inr ⟨i, by omega, h⟩)
  · rintro (h | h)
    · exact isp_sub (by omega) h
    · exact Or.inr ⟨n, Nat.lt_succ_self _, h⟩
theorem spc_more {P : Nat → List Nat} {n : Nat} {w : List Nat} (h : spc P n) (hwk : wok P n) (hw : wgood w) (hn : ¬ pmem P n w) : ∃ Q, spc Q (n + 1) ∧ ∀ u, pmem Q (n + 1) u ↔ (pmem P n u ∨ u = w) := by
  obtain ⟨r, r1, r2, r3⟩ := spc_place (x := wpk w) n h
  refine ⟨pinw P n r w, spc_pin h r1 r2 (fun i h1 h2 => ?_), pin_mem r1⟩
  have h3 := r3 i h1 h2
  have h4 : ¬ wpk w = wpk (P i) := fun z => hn ⟨i, h2, (wpk_inj hw (hwk i h2).1 z).symm⟩
  omega
section
variable {d n np : Nat} {f : zF} {m : zM} {X P : Nat → List Nat} {G : Nat → Bool} {w : List Nat} {g : Bool}
theorem s_append (hd : 4 ≤ d) (h : EX f n X G P np) (hPC : PC n X P np) (hw : wgood w ∧ w.length ≤ 6) : ∃ (f' : zF) (v : Int), zrun zTb d 6 [.ref 2, .long (J (wpk w)), .int (I (if g = true then 1 else 0))] f m = some (.inl (some (.int (I v))), f', m) ∧ fre 2 8 f f' ∧ ((v = 1 ∧ n < 10 ∧ (∀ k, k < n → X k ≠ w) ∧ ∃ P' np', EX f' (n + 1) (zst X n w) (zst G n g) P' np' ∧ PC (n + 1) (zst X n w) P' np') ∨ (v = 0 ∧ EX f' n X G P np ∧ (n = 10 ∨ (∃ k, k < n ∧ X k = w) ∨ ∃ P', spc P' 61 ∧ ∀ u, pmem P' 61 u → isp (n + 1) (zst X n w) u))) := by
  obtain ⟨d, rfl⟩ : ∃ e, d = e + 1 := ⟨d - 1, by omega⟩
  have hEX := h
  obtain ⟨p, q, W, b, k, hpq, hex, hW, hp, hq, hqb, hn, hX⟩ := h
  have hx := wpk_48 hw.1 hw.2
  have hWb : ∀ i, i < n → 0 ≤ W i ∧ W i < 4611686018427387904 := by
    intro i hi
    have := wpk_48 (hX i hi).1 (hX i hi).2
    rw [hW i hi]; omega
  have e0 := s_X1_holds (d := d) (m := m) (x := ((wpk w : Nat) : Int)) (by omega) hex hn hWb (by omega)
  have hho : (∃ k, k < n ∧ W k = ((wpk w : Nat) : Int)) ↔ ∃ k, k < n ∧ X k = w := by
    constructor
    · rintro ⟨j, h1, h2⟩
      refine ⟨j, h1, wpk_inj (hX j h1).1 hw.1 ?_⟩
      rw [hW j h1] at h2; omega
    · rintro ⟨j, h1, rfl⟩
      exact ⟨j, h1, hW j h1⟩
  generalize hr : zrun zTb (d + 1) 6 [.ref 2, .long (J (wpk w)), .int (I (if g = true then 1 else 0))] f m = r
  rw [zs_X1_append] at hr
  by_cases hn10 : n = 10
  · subst hn10
    simp (disch := omega) only [ze_X1_append_0, ze_X1_append_4, ze_X1_append_8, ze_X1_append_9, ze_X1_append_12, ze_X1_append_17, ze_X1_append_20, ze_X1_append_22, ze_X1_append_26, ze_X1_append_30, ze_X1_append_33, ze_X1_append_37, ze_X1_append_41, ze_X1_append_44, ze_X1_append_46, ze_X1_append_50, ze_X1_append_57, ze_X1_append_60, ze_X1_append_66, ze_X1_append_70, ze_X1_append_74, ze_X1_append_76, ze_X1_append_80, ze_X1_append_84, ze_X1_append_86, ze_X1_append_91, ze_X1_append_96, zcal_x, zfh_nil, zfh_cons, zset_0, zset_1, zset_s, zcal_v, zcal_n, zcalI_n, zco_O, zcf_O, zcs_O, zisc_O, zr8_A, zr8_S, zri_A, zri_B, zri_C, zrl_L, zrd_D, zrs_R, zgi_A, zgi_S, zgi_B, zgi_C, zgl_L, zgd_D, zisa_A, zisa_S, zisa_L, zisa_B, zisa_R, zln_A, zln_S, zln_L, zln_B, zln_R, zwi_A, zwl_L, zwd_D, zclr_i, zclr_r, zclr_l, zclr_d, zclr_n, zok_i, zok_l, zok_b0, zok_b1, I_add, I_sub, I_mul, I_neg, J_add, J_sub, J_mul, J_toI, I_ofNat, I_cl, I_J, I_ne2, zup_same, zup_up, zup_ne, zc1_eqB, zc1_neB, zret_b, zret_b0, zret_b1, List.getD_cons_zero, List.getD_cons_succ, List.length_cons, List.length_nil, List.set_cons_zero, List.set_cons_succ, Option.toList, List.cons_append, List.nil_append, Int.cast_ofNat_Int, decide_eq_true_eq, Bool.and_eq_true, and_self, true_and, and_true, if_true, if_false, not_true_eq_false, not_false_eq_true, ↓reduceIte, Nat.reduceAdd, Nat.reduceLT, Nat.reduceLeDiff, Nat.reduceEqDiff, Int.reduceAdd, Int.reduceSub, Int.reduceMul, Int.reduceNeg, Int.reduceLT, Int.reduceLE, Int.reduceEq, Int.reduceToNat, Int.toNat_natCast, Nat.lt_add_one, Nat.zero_lt_succ, q1_eq_t, q1_eq_f, q2_eq_t, q2_eq_f, ql_eq_t, ql_eq_f, q1_ne_t, q1_ne_f, q2_ne_t, q2_ne_f, ql_ne_t, ql_ne_f, q1_lt_t, q1_lt_f, q2_lt_t, q2_lt_f, ql_lt_t, ql_lt_f, q1_ge_t, q1_ge_f, q2_ge_t, q2_ge_f, ql_ge_t, ql_ge_f, q1_gt_t, q1_gt_f, q2_gt_t, q2_gt_f, ql_gt_t, ql_gt_f, q1_le_t, q1_le_f, q2_le_t, q2_le_f, ql_le_t, ql_le_f, zib_t, qb_t, qb_f, nk_add, nk_mul, nk_sub, nk_d1, nk_d0, nk_toNat, nk_r1, nk_l1, nk_m1, nk_n1, nk_s1, nk_t1, nk_r2, nk_l2, nk_m2, nk_n2, nk_s2, nk_t2, nk_r3, nk_l3, nk_m3, nk_n3, nk_s3, nk_t3, nk_r4, nk_l4, nk_m4, nk_n4, nk_s4, nk_t4, nk_r6, nk_l6, nk_m6, nk_n6, nk_s6, nk_t6, nk_r7, nk_l7, nk_m7, nk_n7, nk_s7, nk_t7, nk_r8, nk_l8, nk_m8, nk_n8, nk_s8, nk_t8, nk_r12, nk_l12, nk_m12, nk_n12, nk_s12, nk_t12, nk_r31, nk_l31, nk_m31, nk_n31, nk_s31, nk_t31, nk_r32, nk_l32, nk_m32, nk_n32, nk_s32, nk_t32, nk_r59, nk_l59, nk_m59, nk_n59, nk_s59, nk_t59, nk_r60, nk_l60, nk_m60, nk_n60, nk_s60, nk_t60, nk_r96, nk_l96, nk_m96, nk_n96, nk_s96, nk_t96, nk_r97, nk_l97, nk_m97, nk_n97, nk_s97, nk_t97, nk_r120, nk_l120, nk_m120, nk_n120, nk_s120, nk_t120, nk_r240, nk_l240, nk_m240, nk_n240, nk_s240, nk_t240, nk_r255, nk_l255, nk_m255, nk_n255, nk_s255, nk_t255, nk_r256, nk_l256, nk_m256, nk_n256, nk_s256, nk_t256, Nat.add_zero, Nat.zero_add, Nat.mul_one, Nat.one_mul, Nat.mul_zero, Nat.zero_mul, Nat.sub_zero, Nat.reduceSub, Nat.reduceMul, Nat.add_sub_cancel, Bool.false_eq_true, Int.add_zero, Int.zero_add, Int.sub_zero, hex.1, hex.2.1] at hr
    subst hr
    exact ⟨_, 0, rfl, fre_refl, Or.inr ⟨rfl, hEX, Or.inl rfl⟩⟩
  · by_cases hh : ∃ k, k < n ∧ X k = w
    · rw [if_pos (hho.mpr hh)] at e0
      simp (disch := omega) only [ze_X1_append_0, ze_X1_append_4, ze_X1_append_8, ze_X1_append_9, ze_X1_append_12, ze_X1_append_17, ze_X1_append_20, ze_X1_append_22, ze_X1_append_26, ze_X1_append_30, ze_X1_append_33, ze_X1_append_37, ze_X1_append_41, ze_X1_append_44, ze_X1_append_46, ze_X1_append_50, ze_X1_append_57, ze_X1_append_60, ze_X1_append_66, ze_X1_append_70, ze_X1_append_74, ze_X1_append_76, ze_X1_append_80, ze_X1_append_84, ze_X1_append_86, ze_X1_append_91, ze_X1_append_96, zcal_x, zfh_nil, zfh_cons, zset_0, zset_1, zset_s, zcal_v, zcal_n, zcalI_n, zco_O, zcf_O, zcs_O, zisc_O, zr8_A, zr8_S, zri_A, zri_B, zri_C, zrl_L, zrd_D, zrs_R, zgi_A, zgi_S, zgi_B, zgi_C, zgl_L, zgd_D, zisa_A, zisa_S, zisa_L, zisa_B, zisa_R, zln_A, zln_S, zln_L, zln_B, zln_R, zwi_A, zwl_L, zwd_D, zclr_i, zclr_r, zclr_l, zclr_d, zclr_n, zok_i, zok_l, zok_b0, zok_b1, I_add, I_sub, I_mul, I_neg, J_add, J_sub, J_mul, J_toI, I_ofNat, I_cl, I_J, I_ne2, zup_same, zup_up, zup_ne, zc1_eqB, zc1_neB, zret_b, zret_b0, zret_b1, List.getD_cons_zero, List.getD_cons_succ, List.length_cons, List.length_nil, List.set_cons_zero, List.set_cons_succ, Option.toList, List.cons_append, List.nil_append, Int.cast_ofNat_Int, decide_eq_true_eq, Bool.and_eq_true, and_self, true_and, and_true, if_true, if_false, not_true_eq_false, not_false_eq_true, ↓reduceIte, Nat.reduceAdd, Nat.reduceLT, Nat.reduceLeDiff, Nat.reduceEqDiff, Int.reduceAdd, Int.reduceSub, Int.reduceMul, Int.reduceNeg, Int.reduceLT, Int.reduceLE, Int.reduceEq, Int.reduceToNat, Int.toNat_natCast, Nat.lt_add_one, Nat.zero_lt_succ, q1_eq_t, q1_eq_f, q2_eq_t, q2_eq_f, ql_eq_t, ql_eq_f, q1_ne_t, q1_ne_f, q2_ne_t, q2_ne_f, ql_ne_t, ql_ne_f, q1_lt_t, q1_lt_f, q2_lt_t, q2_lt_f, ql_lt_t, ql_lt_f, q1_ge_t, q1_ge_f, q2_ge_t, q2_ge_f, ql_ge_t, ql_ge_f, q1_gt_t, q1_gt_f, q2_gt_t, q2_gt_f, ql_gt_t, ql_gt_f, q1_le_t, q1_le_f, q2_le_t, q2_le_f, ql_le_t, ql_le_f, zib_t, qb_t, qb_f, nk_add, nk_mul, nk_sub, nk_d1, nk_d0, nk_toNat, nk_r1, nk_l1, nk_m1, nk_n1, nk_s1, nk_t1, nk_r2, nk_l2, nk_m2, nk_n2, nk_s2, nk_t2, nk_r3, nk_l3, nk_m3, nk_n3, nk_s3, nk_t3, nk_r4, nk_l4, nk_m4, nk_n4, nk_s4, nk_t4, nk_r6, nk_l6, nk_m6, nk_n6, nk_s6, nk_t6, nk_r7, nk_l7, nk_m7, nk_n7, nk_s7, nk_t7, nk_r8, nk_l8, nk_m8, nk_n8, nk_s8, nk_t8, nk_r12, nk_l12, nk_m12, nk_n12, nk_s12, nk_t12, nk_r31, nk_l31, nk_m31, nk_n31, nk_s31, nk_t31, nk_r32, nk_l32, nk_m32, nk_n32, nk_s32, nk_t32, nk_r59, nk_l59, nk_m59, nk_n59, nk_s59, nk_t59, nk_r60, nk_l60, nk_m60, nk_n60, nk_s60, nk_t60, nk_r96, nk_l96, nk_m96, nk_n96, nk_s96, nk_t96, nk_r97, nk_l97, nk_m97, nk_n97, nk_s97, nk_t97, nk_r120, nk_l120, nk_m120, nk_n120, nk_s120, nk_t120, nk_r240, nk_l240, nk_m240, nk_n240, nk_s240, nk_t240, nk_r255, nk_l255, nk_m255, nk_n255, nk_s255, nk_t255, nk_r256, nk_l256, nk_m256, nk_n256, nk_s256, nk_t256, Nat.add_zero, Nat.zero_add, Nat.mul_one, Nat.one_mul, Nat.mul_zero, Nat.zero_mul, Nat.sub_zero, Nat.reduceSub, Nat.reduceMul, Nat.add_sub_cancel, Bool.false_eq_true, Int.add_zero, Int.zero_add, Int.sub_zero, hex.1, hex.2.1, e0] at hr
      subst hr
      exact ⟨_, 0, rfl, fre_refl, Or.inr ⟨rfl, hEX, Or.inr (Or.inl hh)⟩⟩
    · rw [if_neg (fun z => hh (hho.mp z))] at e0
      clear hho
      obtain ⟨a, h1, h2, h3, h4, h5, h6⟩ := hp
      have e1 := s_X3_becomeCopy (d := d) (f := f) (m := m) (p := q) (q := p) (w := q + 1) (w2 := p + 1) (n := k) (k := np) (a := b) (b := a) (by omega) (by omega) (by omega) (by omega) (by omega) (by omega) hq hqb h1 h2 h4
      have hp1 : pcs (zup (zup f q (kO 3 [.ref (q + 1), .int (I np)])) (q + 1) (kL 60 (pcp a b np))) q P np := by
        refine ⟨pcp a b np, by rw [zup_ne (by omega), zup_same], zup_same, fun i hi => ?_, h4, h5, h6⟩
        unfold pcp
        rw [if_pos hi]; exact h3 i hi
      obtain ⟨f2, v, P2, n2, e2, i2, i3, i4, i5, i6⟩ := s_takeIn (d := d) (m := m) (by omega) hw.1 hw.2 hp1
      have hf : ∀ i, (i < q ∨ q + 1 < i) → f2 i = f i := by
        intro i hi
        rw [i3 i hi, zup_ne (by omega), zup_ne (by omega)]
      obtain ⟨x0, x1, x2⟩ := hex
      revert i6
      have y0 : f2 2 = _ := (hf 2 (by omega)).trans x0
      have y1 : f2 3 = _ := (hf 3 (by omega)).trans x1
      have y2 : f2 4 = _ := (hf 4 (by omega)).trans x2
      have yp : f2 p = f p := hf p (by omega)
      have yp1 : f2 (p + 1) = f (p + 1) := hf (p + 1) (by omega)
      have hfr : fre 2 8 f f2 := fun i hi => hf i (by omega)
      intro i6
      obtain ⟨a2, j1, j2, j3, j4, j5, j6⟩ := i2
      rcases i6 with ⟨rfl, i6⟩ | ⟨rfl, i6, aa, bb, i7, i8, i9⟩
      · have hPC2 : PC (n + 1) (zst X n w) P2 n2 := by
          refine ⟨j5, j6, fun u => ⟨fun hu => ?_, fun hu => ?_⟩⟩
          · rcases i5 u hu with h7 | ⟨aa, bb, h7, h8, rfl⟩
            · exact isp_mono ((hPC.2.2 u).mp h7)
            · exact isp_new h7 h8
          · rcases isp_split hu with h7 | ⟨aa, bb, h7, h8, rfl⟩
            · exact i4 u ((hPC.2.2 u).mpr h7)
            · exact i6 aa bb h7 h8
        rcases hpq with ⟨rfl, rfl⟩ | ⟨rfl, rfl⟩
        all_goals
          simp (disch := omega) only [Nat.reduceAdd] at e1 e2 hq hqb h1 h2 j1 j2 hf hp1
          simp (disch := omega) only [ze_X1_append_0, ze_X1_append_4, ze_X1_append_8, ze_X1_append_9, ze_X1_append_12, ze_X1_append_17, ze_X1_append_20, ze_X1_append_22, ze_X1_append_26, ze_X1_append_30, ze_X1_append_33, ze_X1_append_37, ze_X1_append_41, ze_X1_append_44, ze_X1_append_46, ze_X1_append_50, ze_X1_append_57, ze_X1_append_60, ze_X1_append_66, ze_X1_append_70, ze_X1_append_74, ze_X1_append_76, ze_X1_append_80, ze_X1_append_84, ze_X1_append_86, ze_X1_append_91, ze_X1_append_96, zcal_x, zfh_nil, zfh_cons, zset_0, zset_1, zset_s, zcal_v, zcal_n, zcalI_n, zco_O, zcf_O, zcs_O, zisc_O, zr8_A, zr8_S, zri_A, zri_B, zri_C, zrl_L, zrd_D, zrs_R, zgi_A, zgi_S, zgi_B, zgi_C, zgl_L, zgd_D, zisa_A, zisa_S, zisa_L, zisa_B, zisa_R, zln_A, zln_S, zln_L, zln_B, zln_R, zwi_A, zwl_L, zwd_D, zclr_i, zclr_r, zclr_l, zclr_d, zclr_n, zok_i, zok_l, zok_b0, zok_b1, I_add, I_sub, I_mul, I_neg, J_add, J_sub, J_mul, J_toI, I_ofNat, I_cl, I_J, I_ne2, zup_same, zup_up, zup_ne, zc1_eqB, zc1_neB, zret_b, zret_b0, zret_b1, List.getD_cons_zero, List.getD_cons_succ, List.length_cons, List.length_nil, List.set_cons_zero, List.set_cons_succ, Option.toList, List.cons_append, List.nil_append, Int.cast_ofNat_Int, decide_eq_true_eq, Bool.and_eq_true, and_self, true_and, and_true, if_true, if_false, not_true_eq_false, not_false_eq_true, ↓reduceIte, Nat.reduceAdd, Nat.reduceLT, Nat.reduceLeDiff, Nat.reduceEqDiff, Int.reduceAdd, Int.reduceSub, Int.reduceMul, Int.reduceNeg, Int.reduceLT, Int.reduceLE, Int.reduceEq, Int.reduceToNat, Int.toNat_natCast, Nat.lt_add_one, Nat.zero_lt_succ, q1_eq_t, q1_eq_f, q2_eq_t, q2_eq_f, ql_eq_t, ql_eq_f, q1_ne_t, q1_ne_f, q2_ne_t, q2_ne_f, ql_ne_t, ql_ne_f, q1_lt_t, q1_lt_f, q2_lt_t, q2_lt_f, ql_lt_t, ql_lt_f, q1_ge_t, q1_ge_f, q2_ge_t, q2_ge_f, ql_ge_t, ql_ge_f, q1_gt_t, q1_gt_f, q2_gt_t, q2_gt_f, ql_gt_t, ql_gt_f, q1_le_t, q1_le_f, q2_le_t, q2_le_f, ql_le_t, ql_le_f, zib_t, qb_t, qb_f, nk_add, nk_mul, nk_sub, nk_d1, nk_d0, nk_toNat, nk_r1, nk_l1, nk_m1, nk_n1, nk_s1, nk_t1, nk_r2, nk_l2, nk_m2, nk_n2, nk_s2, nk_t2, nk_r3, nk_l3, nk_m3, nk_n3, nk_s3, nk_t3, nk_r4, nk_l4, nk_m4, nk_n4, nk_s4, nk_t4, nk_r6, nk_l6, nk_m6, nk_n6, nk_s6, nk_t6, nk_r7, nk_l7, nk_m7, nk_n7, nk_s7, nk_t7, nk_r8, nk_l8, nk_m8, nk_n8, nk_s8, nk_t8, nk_r12, nk_l12, nk_m12, nk_n12, nk_s12, nk_t12, nk_r31, nk_l31, nk_m31, nk_n31, nk_s31, nk_t31, nk_r32, nk_l32, nk_m32, nk_n32, nk_s32, nk_t32, nk_r59, nk_l59, nk_m59, nk_n59, nk_s59, nk_t59, nk_r60, nk_l60, nk_m60, nk_n60, nk_s60, nk_t60, nk_r96, nk_l96, nk_m96, nk_n96, nk_s96, nk_t96, nk_r97, nk_l97, nk_m97, nk_n97, nk_s97, nk_t97, nk_r120, nk_l120, nk_m120, nk_n120, nk_s120, nk_t120, nk_r240, nk_l240, nk_m240, nk_n240, nk_s240, nk_t240, nk_r255, nk_l255, nk_m255, nk_n255, nk_s255, nk_t255, nk_r256, nk_l256, nk_m256, nk_n256, nk_s256, nk_t256, Nat.add_zero, Nat.zero_add, Nat.mul_one, Nat.one_mul, Nat.mul_zero, Nat.zero_mul, Nat.sub_zero, Nat.reduceSub, Nat.reduceMul, Nat.add_sub_cancel, Bool.false_eq_true, Int.add_zero, Int.zero_add, Int.sub_zero, x0, x1, x2, y0, y1, y2, h1, h2, hq, hqb, e0, e1, e2, j1, j2, qk13, qk14, zwi_B, zfty_1_2] at hr
          subst hr
          refine ⟨_, 1, rfl, ?_, Or.inl ⟨rfl, by omega, fun k' h7 h8 => hh ⟨k', h7, h8⟩, P2, n2, ?_, hPC2⟩⟩
        · exact fre_zup (fre_zup (fre_zup (fre_zup hfr (by omega) (by omega)) (by omega) (by omega)) (by omega) (by omega)) (by omega) (by omega)
        · refine ⟨7, 5, zst W n ((wpk w : Nat) : Int), a, np, by omega, ⟨?_, ?_, ?_⟩, ?_, ⟨a2, ?_, ?_, j3, j4, j5, j6⟩, ?_, ?_, by omega, ?_⟩
          · exact zup_same
          · simp (disch := omega) only [zup_same, zup_ne]
          · simp (disch := omega) only [zup_same, zup_ne]
          · intro i hi
            unfold zst
            split
            · rfl
            · exact hW i (by omega)
          · simp (disch := omega) only [zup_same, zup_ne, Nat.reduceAdd, j1]
          · simp (disch := omega) only [zup_same, zup_ne, Nat.reduceAdd, j2]
          · simp (disch := omega) only [zup_same, zup_ne, Nat.reduceAdd, hf, h1]
          · simp (disch := omega) only [zup_same, zup_ne, Nat.reduceAdd, hf, h2]
          · intro i hi
            unfold zst
            split
            · exact hw
            · exact hX i (by omega)
        · exact fre_zup (fre_zup (fre_zup (fre_zup hfr (by omega) (by omega)) (by omega) (by omega)) (by omega) (by omega)) (by omega) (by omega)
        · refine ⟨5, 7, zst W n ((wpk w : Nat) : Int), a, np, by omega, ⟨?_, ?_, ?_⟩, ?_, ⟨a2, ?_, ?_, j3, j4, j5, j6⟩, ?_, ?_, by omega, ?_⟩
          · exact zup_same
          · simp (disch := omega) only [zup_same, zup_ne]
          · simp (disch := omega) only [zup_same, zup_ne]
          · intro i hi
            unfold zst
            split
            · rfl
            · exact hW i (by omega)
          · simp (disch := omega) only [zup_same, zup_ne, Nat.reduceAdd, j1]
          · simp (disch := omega) only [zup_same, zup_ne, Nat.reduceAdd, j2]
          · simp (disch := omega) only [zup_same, zup_ne, Nat.reduceAdd, hf, h1]
          · simp (disch := omega) only [zup_same, zup_ne, Nat.reduceAdd, hf, h2]
          · intro i hi
            unfold zst
            split
            · exact hw
            · exact hX i (by omega)
      · have hEX2 : EX f2 n X G P np := ⟨p, q, W, a2, n2, hpq, ⟨y0, y1, y2⟩, hW, ⟨a, yp.trans h1, yp1.trans h2, h3, h4, h5, h6⟩, j1, j2, hn, hX⟩
        have hbig : ∃ P', spc P' 61 ∧ ∀ u, pmem P' 61 u → isp (n + 1) (zst X n w) u := by
          subst i6
          obtain ⟨Q, q1, q2⟩ := spc_more j5 j6 (wsl_ok hw.1 hw.2).1 i9
          refine ⟨Q, q1, fun u hu => ?_⟩
          rcases (q2 u).mp hu with h7 | rfl
          · rcases i5 u h7 with h8 | ⟨a3, b3, h8, h9, rfl⟩
            · exact isp_mono ((hPC.2.2 u).mp h8)
            · exact isp_new h8 h9
          · exact isp_new i7 i8
        rcases hpq with ⟨rfl, rfl⟩ | ⟨rfl, rfl⟩
        all_goals
          simp (disch := omega) only [Nat.reduceAdd] at e1 e2 hq hqb h1 h2 j1 j2 hf hp1
          simp (disch := omega) only [ze_X1_append_0, ze_X1_append_4, ze_X1_append_8, ze_X1_append_9, ze_X1_append_12, ze_X1_append_17, ze_X1_append_20, ze_X1_append_22, ze_X1_append_26, ze_X1_append_30, ze_X1_append_33, ze_X1_append_37, ze_X1_append_41, ze_X1_append_44, ze_X1_append_46, ze_X1_append_50, ze_X1_append_57, ze_X1_append_60, ze_X1_append_66, ze_X1_append_70, ze_X1_append_74, ze_X1_append_76, ze_X1_append_80, ze_X1_append_84, ze_X1_append_86, ze_X1_append_91, ze_X1_append_96, zcal_x, zfh_nil, zfh_cons, zset_0, zset_1, zset_s, zcal_v, zcal_n, zcalI_n, zco_O, zcf_O, zcs_O, zisc_O, zr8_A, zr8_S, zri_A, zri_B, zri_C, zrl_L, zrd_D, zrs_R, zgi_A, zgi_S, zgi_B, zgi_C, zgl_L, zgd_D, zisa_A, zisa_S, zisa_L, zisa_B, zisa_R, zln_A, zln_S, zln_L, zln_B, zln_R, zwi_A, zwl_L, zwd_D, zclr_i, zclr_r, zclr_l, zclr_d, zclr_n, zok_i, zok_l, zok_b0, zok_b1, I_add, I_sub, I_mul, I_neg, J_add, J_sub, J_mul, J_toI, I_ofNat, I_cl, I_J, I_ne2, zup_same, zup_up, zup_ne, zc1_eqB, zc1_neB, zret_b, zret_b0, zret_b1, List.getD_cons_zero, List.getD_cons_succ, List.length_cons, List.length_nil, List.set_cons_zero, List.set_cons_succ, Option.toList, List.cons_append, List.nil_append, Int.cast_ofNat_Int, decide_eq_true_eq, Bool.and_eq_true, and_self, true_and, and_true, if_true, if_false, not_true_eq_false, not_false_eq_true, ↓reduceIte, Nat.reduceAdd, Nat.reduceLT, Nat.reduceLeDiff, Nat.reduceEqDiff, Int.reduceAdd, Int.reduceSub, Int.reduceMul, Int.reduceNeg, Int.reduceLT, Int.reduceLE, Int.reduceEq, Int.reduceToNat, Int.toNat_natCast, Nat.lt_add_one, Nat.zero_lt_succ, q1_eq_t, q1_eq_f, q2_eq_t, q2_eq_f, ql_eq_t, ql_eq_f, q1_ne_t, q1_ne_f, q2_ne_t, q2_ne_f, ql_ne_t, ql_ne_f, q1_lt_t, q1_lt_f, q2_lt_t, q2_lt_f, ql_lt_t, ql_lt_f, q1_ge_t, q1_ge_f, q2_ge_t, q2_ge_f, ql_ge_t, ql_ge_f, q1_gt_t, q1_gt_f, q2_gt_t, q2_gt_f, ql_gt_t, ql_gt_f, q1_le_t, q1_le_f, q2_le_t, q2_le_f, ql_le_t, ql_le_f, zib_t, qb_t, qb_f, nk_add, nk_mul, nk_sub, nk_d1, nk_d0, nk_toNat, nk_r1, nk_l1, nk_m1, nk_n1, nk_s1, nk_t1, nk_r2, nk_l2, nk_m2, nk_n2, nk_s2, nk_t2, nk_r3, nk_l3, nk_m3, nk_n3, nk_s3, nk_t3, nk_r4, nk_l4, nk_m4, nk_n4, nk_s4, nk_t4, nk_r6, nk_l6, nk_m6, nk_n6, nk_s6, nk_t6, nk_r7, nk_l7, nk_m7, nk_n7, nk_s7, nk_t7, nk_r8, nk_l8, nk_m8, nk_n8, nk_s8, nk_t8, nk_r12, nk_l12, nk_m12, nk_n12, nk_s12, nk_t12, nk_r31, nk_l31, nk_m31, nk_n31, nk_s31, nk_t31, nk_r32, nk_l32, nk_m32, nk_n32, nk_s32, nk_t32, nk_r59, nk_l59, nk_m59, nk_n59, nk_s59, nk_t59, nk_r60, nk_l60, nk_m60, nk_n60, nk_s60, nk_t60, nk_r96, nk_l96, nk_m96, nk_n96, nk_s96, nk_t96, nk_r97, nk_l97, nk_m97, nk_n97, nk_s97, nk_t97, nk_r120, nk_l120, nk_m120, nk_n120, nk_s120, nk_t120, nk_r240, nk_l240, nk_m240, nk_n240, nk_s240, nk_t240, nk_r255, nk_l255, nk_m255, nk_n255, nk_s255, nk_t255, nk_r256, nk_l256, nk_m256, nk_n256, nk_s256, nk_t256, Nat.add_zero, Nat.zero_add, Nat.mul_one, Nat.one_mul, Nat.mul_zero, Nat.zero_mul, Nat.sub_zero, Nat.reduceSub, Nat.reduceMul, Nat.add_sub_cancel, Bool.false_eq_true, Int.add_zero, Int.zero_add, Int.sub_zero, x0, x1, x2, y0, y1, y2, h1, h2, hq, hqb, e0, e1, e2, j1, j2, qk13, qk14, zwi_B, zfty_1_2] at hr
          subst hr
          exact ⟨_, 0, rfl, hfr, Or.inr ⟨rfl, hEX2, Or.inr (Or.inr hbig)⟩⟩
theorem rl_loop (hd : 3 ≤ d) {p q : Nat} {W : Nat → Int} (hpq : (p = 5 ∧ q = 7) ∨ (p = 7 ∧ q = 5)) (hW : ∀ i, i < n → W i = ((wpk (X i) : Nat) : Int)) (hX : wok X n) (hn : n ≤ 10) {Q : Nat → List Nat} {nq : Nat} (hQ : spc Q nq) (hQ60 : nq ≤ 60) (hQm : ∀ u, isp n X u → pmem Q nq u) : ∀ (j i : Nat) (f : zF) (P : Nat → List Nat) (np : Nat), i + j = n → exs f n W G p q → pcs f p P np → PC i X P np → ∃ (f' : zF) (P' : Nat → List Nat) (np' : Nat), zex zTb d zqX1_removeLast 30 [.ref 2, .int (I i)] [] f m = some (.inl none, f', m) ∧ fre p (p + 1) f f' ∧ pcs f' p P' np' ∧ PC n X P' np' := by
  intro j
  induction j with
  | zero =>
    intro i f P np hi hex hp hPC
    obtain rfl : i = n := by omega
    refine ⟨f, P, np, ?_, fre_refl, hp, hPC⟩
    rw [ze_X1_removeLast_30]
    simp (disch := omega) only [ze_X1_removeLast_0, ze_X1_removeLast_5, ze_X1_removeLast_9, ze_X1_removeLast_12, ze_X1_removeLast_16, ze_X1_removeLast_21, ze_X1_removeLast_25, ze_X1_removeLast_28, ze_X1_removeLast_35, ze_X1_removeLast_38, ze_X1_removeLast_42, ze_X1_removeLast_46, ze_X1_removeLast_48, ze_X1_removeLast_51, ze_X1_removeLast_58, zcal_x, zfh_nil, zfh_cons, zset_0, zset_1, zset_s, zcal_v, zcal_n, zcalI_n, zco_O, zcf_O, zcs_O, zisc_O, zr8_A, zr8_S, zri_A, zri_B, zri_C, zrl_L, zrd_D, zrs_R, zgi_A, zgi_S, zgi_B, zgi_C, zgl_L, zgd_D, zisa_A, zisa_S, zisa_L, zisa_B, zisa_R, zln_A, zln_S, zln_L, zln_B, zln_R, zwi_A, zwl_L, zwd_D, zclr_i, zclr_r, zclr_l, zclr_d, zclr_n, zok_i, zok_l, zok_b0, zok_b1, I_add, I_sub, I_mul, I_neg, J_add, J_sub, J_mul, J_toI, I_ofNat, I_cl, I_J, I_ne2, zup_same, zup_up, zup_ne, zc1_eqB, zc1_neB, zret_b, zret_b0, zret_b1, List.getD_cons_zero, List.getD_cons_succ, List.length_cons, List.length_nil, List.set_cons_zero, List.set_cons_succ, Option.toList, List.cons_append, List.nil_append, Int.cast_ofNat_Int, decide_eq_true_eq, Bool.and_eq_true, and_self, true_and, and_true, if_true, if_false, not_true_eq_false, not_false_eq_true, ↓reduceIte, Nat.reduceAdd, Nat.reduceLT, Nat.reduceLeDiff, Nat.reduceEqDiff, Int.reduceAdd, Int.reduceSub, Int.reduceMul, Int.reduceNeg, Int.reduceLT, Int.reduceLE, Int.reduceEq, Int.reduceToNat, Int.toNat_natCast, Nat.lt_add_one, Nat.zero_lt_succ, q1_eq_t, q1_eq_f, q2_eq_t, q2_eq_f, ql_eq_t, ql_eq_f, q1_ne_t, q1_ne_f, q2_ne_t, q2_ne_f, ql_ne_t, ql_ne_f, q1_lt_t, q1_lt_f, q2_lt_t, q2_lt_f, ql_lt_t, ql_lt_f, q1_ge_t, q1_ge_f, q2_ge_t, q2_ge_f, ql_ge_t, ql_ge_f, q1_gt_t, q1_gt_f, q2_gt_t, q2_gt_f, ql_gt_t, ql_gt_f, q1_le_t, q1_le_f, q2_le_t, q2_le_f, ql_le_t, ql_le_f, zib_t, qb_t, qb_f, nk_add, nk_mul, nk_sub, nk_d1, nk_d0, nk_toNat, nk_r1, nk_l1, nk_m1, nk_n1, nk_s1, nk_t1, nk_r2, nk_l2, nk_m2, nk_n2, nk_s2, nk_t2, nk_r3, nk_l3, nk_m3, nk_n3, nk_s3, nk_t3, nk_r4, nk_l4, nk_m4, nk_n4, nk_s4, nk_t4, nk_r6, nk_l6, nk_m6, nk_n6, nk_s6, nk_t6, nk_r7, nk_l7, nk_m7, nk_n7, nk_s7, nk_t7, nk_r8, nk_l8, nk_m8, nk_n8, nk_s8, nk_t8, nk_r12, nk_l12, nk_m12, nk_n12, nk_s12, nk_t12, nk_r31, nk_l31, nk_m31, nk_n31, nk_s31, nk_t31, nk_r32, nk_l32, nk_m32, nk_n32, nk_s32, nk_t32, nk_r59, nk_l59, nk_m59, nk_n59, nk_s59, nk_t59, nk_r60, nk_l60, nk_m60, nk_n60, nk_s60, nk_t60, nk_r96, nk_l96, nk_m96, nk_n96, nk_s96, nk_t96, nk_r97, nk_l97, nk_m97, nk_n97, nk_s97, nk_t97, nk_r120, nk_l120, nk_m120, nk_n120, nk_s120, nk_t120, nk_r240, nk_l240, nk_m240, nk_n240, nk_s240, nk_t240, nk_r255, nk_l255, nk_m255, nk_n255, nk_s255, nk_t255, nk_r256, nk_l256, nk_m256, nk_n256, nk_s256, nk_t256, Nat.add_zero, Nat.zero_add, Nat.mul_one, Nat.one_mul, Nat.mul_zero, Nat.zero_mul, Nat.sub_zero, Nat.reduceSub, Nat.reduceMul, Nat.add_sub_cancel, Bool.false_eq_true, Int.add_zero, Int.zero_add, Int.sub_zero, hex.1]
  | succ j ih =>
    intro i f P np hi hex hp hPC
    have hXi := hX i (by omega)
    obtain ⟨f1, v, P1, n1, e1, i2, i3, i4, i5, i6⟩ := s_takeIn (d := d) (m := m) hd hXi.1 hXi.2 hp
    have hv : v = 1 ∧ PC (i + 1) X P1 n1 := by
      obtain ⟨a2, j1, j2, j3, j4, j5, j6⟩ := i2
      have hsub : ∀ u, pmem P1 n1 u → isp (i + 1) X u := by
        intro u hu
        rcases i5 u hu with h7 | h7
        · exact isp_step.mpr (Or.inl ((hPC.2.2 u).mp h7))
        · exact isp_step.mpr (Or.inr h7)
      rcases i6 with ⟨rfl, i6⟩ | ⟨rfl, i6, aa, bb, i7, i8, i9⟩
      · refine ⟨rfl, j5, j6, fun u => ⟨hsub u, fun hu => ?_⟩⟩
        rcases isp_step.mp hu with h7 | ⟨aa, bb, h7, h8, rfl⟩
        · exact i4 u ((hPC.2.2 u).mpr h7)
        · exact i6 aa bb h7 h8
      · subst i6
        obtain ⟨R, q1, q2⟩ := spc_more j5 j6 (wsl_ok hXi.1 hXi.2).1 i9
        have := spc_le q1 hQ (fun u hu => hQm u (isp_sub (by omega) (by
          rcases (q2 u).mp hu with h7 | rfl
          · exact hsub u h7
          · exact isp_step.mpr (Or.inr ⟨aa, bb, i7, i8, rfl⟩) : isp (i + 1) X u)))
        omega
    obtain ⟨rfl, hPC1⟩ := hv
    obtain ⟨x0, x1, x2⟩ := hex
    obtain ⟨f2, P2, n2, k1, k2, k3, k4⟩ := ih (i + 1) f1 P1 n1 (by omega) ⟨(i3 2 (by omega)).trans x0, (i3 3 (by omega)).trans x1, (i3 4 (by omega)).trans x2⟩ i2 hPC1
    refine ⟨f2, P2, n2, ?_, fre_trans i3 k2, k3, k4⟩
    obtain ⟨a, h1, h2, -⟩ := hp
    rw [ze_X1_removeLast_30]
    refine Eq.trans ?_ k1
    simp (disch := omega) only [ze_X1_removeLast_0, ze_X1_removeLast_5, ze_X1_removeLast_9, ze_X1_removeLast_12, ze_X1_removeLast_16, ze_X1_removeLast_21, ze_X1_removeLast_25, ze_X1_removeLast_28, ze_X1_removeLast_35, ze_X1_removeLast_38, ze_X1_removeLast_42, ze_X1_removeLast_46, ze_X1_removeLast_48, ze_X1_removeLast_51, ze_X1_removeLast_58, zcal_x, zfh_nil, zfh_cons, zset_0, zset_1, zset_s, zcal_v, zcal_n, zcalI_n, zco_O, zcf_O, zcs_O, zisc_O, zr8_A, zr8_S, zri_A, zri_B, zri_C, zrl_L, zrd_D, zrs_R, zgi_A, zgi_S, zgi_B, zgi_C, zgl_L, zgd_D, zisa_A, zisa_S, zisa_L, zisa_B, zisa_R, zln_A, zln_S, zln_L, zln_B, zln_R, zwi_A, zwl_L, zwd_D, zclr_i, zclr_r, zclr_l, zclr_d, zclr_n, zok_i, zok_l, zok_b0, zok_b1, I_add, I_sub, I_mul, I_neg, J_add, J_sub, J_mul, J_toI, I_ofNat, I_cl, I_J, I_ne2, zup_same, zup_up, zup_ne, zc1_eqB, zc1_neB, zret_b, zret_b0, zret_b1, List.getD_cons_zero, List.getD_cons_succ, List.length_cons, List.length_nil, List.set_cons_zero, List.set_cons_succ, Option.toList, List.cons_append, List.nil_append, Int.cast_ofNat_Int, decide_eq_true_eq, Bool.and_eq_true, and_self, true_and, and_true, if_true, if_false, not_true_eq_false, not_false_eq_true, ↓reduceIte, Nat.reduceAdd, Nat.reduceLT, Nat.reduceLeDiff, Nat.reduceEqDiff, Int.reduceAdd, Int.reduceSub, Int.reduceMul, Int.reduceNeg, Int.reduceLT, Int.reduceLE, Int.reduceEq, Int.reduceToNat, Int.toNat_natCast, Nat.lt_add_one, Nat.zero_lt_succ, q1_eq_t, q1_eq_f, q2_eq_t, q2_eq_f, ql_eq_t, ql_eq_f, q1_ne_t, q1_ne_f, q2_ne_t, q2_ne_f, ql_ne_t, ql_ne_f, q1_lt_t, q1_lt_f, q2_lt_t, q2_lt_f, ql_lt_t, ql_lt_f, q1_ge_t, q1_ge_f, q2_ge_t, q2_ge_f, ql_ge_t, ql_ge_f, q1_gt_t, q1_gt_f, q2_gt_t, q2_gt_f, ql_gt_t, ql_gt_f, q1_le_t, q1_le_f, q2_le_t, q2_le_f, ql_le_t, ql_le_f, zib_t, qb_t, qb_f, nk_add, nk_mul, nk_sub, nk_d1, nk_d0, nk_toNat, nk_r1, nk_l1, nk_m1, nk_n1, nk_s1, nk_t1, nk_r2, nk_l2, nk_m2, nk_n2, nk_s2, nk_t2, nk_r3, nk_l3, nk_m3, nk_n3, nk_s3, nk_t3, nk_r4, nk_l4, nk_m4, nk_n4, nk_s4, nk_t4, nk_r6, nk_l6, nk_m6, nk_n6, nk_s6, nk_t6, nk_r7, nk_l7, nk_m7, nk_n7, nk_s7, nk_t7, nk_r8, nk_l8, nk_m8, nk_n8, nk_s8, nk_t8, nk_r12, nk_l12, nk_m12, nk_n12, nk_s12, nk_t12, nk_r31, nk_l31, nk_m31, nk_n31, nk_s31, nk_t31, nk_r32, nk_l32, nk_m32, nk_n32, nk_s32, nk_t32, nk_r59, nk_l59, nk_m59, nk_n59, nk_s59, nk_t59, nk_r60, nk_l60, nk_m60, nk_n60, nk_s60, nk_t60, nk_r96, nk_l96, nk_m96, nk_n96, nk_s96, nk_t96, nk_r97, nk_l97, nk_m97, nk_n97, nk_s97, nk_t97, nk_r120, nk_l120, nk_m120, nk_n120, nk_s120, nk_t120, nk_r240, nk_l240, nk_m240, nk_n240, nk_s240, nk_t240, nk_r255, nk_l255, nk_m255, nk_n255, nk_s255, nk_t255, nk_r256, nk_l256, nk_m256, nk_n256, nk_s256, nk_t256, Nat.add_zero, Nat.zero_add, Nat.mul_one, Nat.one_mul, Nat.mul_zero, Nat.zero_mul, Nat.sub_zero, Nat.reduceSub, Nat.reduceMul, Nat.add_sub_cancel, Bool.false_eq_true, Int.add_zero, Int.zero_add, Int.sub_zero, x0, x1, h1, hW, e1]
theorem s_removeLast (hd : 4 ≤ d) (h : EX f (n + 1) X G P np) (hPC : PC (n + 1) X P np) : ∃ (f' : zF) (P' : Nat → List Nat) (np' : Nat), zrun zTb d 8 [.ref 2] f m = some (.inl none, f', m) ∧ fre 2 8 f f' ∧ EX f' n X G P' np' ∧ PC n X P' np' := by
  obtain ⟨d, rfl⟩ : ∃ e, d = e + 1 := ⟨d - 1, by omega⟩
  obtain ⟨p, q, W, b, k, hpq, ⟨x0, x1, x2⟩, hW, ⟨a, h1, h2, h3, h4, h5, h6⟩, hq, hqb, hn, hX⟩ := h
  have h60 := h4
  have e1 := s_X3_becomeEmptyWord (d := d) (f := zup f 2 (kO 1 [.ref 3, .ref 4, .int (I n), .ref p, .ref q])) (m := m) (p := p) (w := p + 1) (n := np) (a := a) (by omega) (by omega) (by rw [zup_ne (by omega), h1]) (by rw [zup_ne (by omega), h2])
  have z1 : ∀ i, i < 1 → zst a 0 0 i = ((wpk ((fun _ => [] : Nat → List Nat) i) : Nat) : Int) := by
    intro i hi
    obtain rfl : i = 0 := by omega
    exact zst_same
  have z2 : spc (fun _ => []) 1 := fun i j h7 h8 => by omega
  have z3 : wok (fun _ => []) 1 := fun i hi => ⟨fun c hc => (by cases hc), Nat.zero_le 6⟩
  have z4 : ∀ u, pmem (fun _ => []) 1 u ↔ isp 0 X u := by
    intro u
    constructor
    · rintro ⟨i, _, hu⟩; exact Or.inl hu.symm
    · rintro (rfl | ⟨i, hi, _⟩)
      · exact ⟨0, Nat.zero_lt_one, rfl⟩
      · cases hi
  obtain ⟨f2, P2, n2, k1, k2, k3, k4⟩ := rl_loop (d := d) (m := m) (n := n) (G := G) (by omega) hpq (fun i hi => hW i (by omega)) (fun i hi => hX i (by omega)) (by omega) h5 h60 (fun u hu => (hPC.2.2 u).mpr (isp_sub (by omega) hu)) n 0 (zup (zup (zup f 2 (kO 1 [.ref 3, .ref 4, .int (I n), .ref p, .ref q])) (p + 1) (kL 60 (zst a 0 0))) p (kO 3 [.ref (p + 1), .int (I (1 : Nat))])) (fun _ => []) 1 (by omega) ⟨by simp (disch := omega) only [zup_same, zup_ne], by simp (disch := omega) only [zup_same, zup_ne, x1], by simp (disch := omega) only [zup_same, zup_ne, x2]⟩ ⟨zst a 0 0, zup_same, by simp (disch := omega) only [zup_same, zup_ne], z1, by omega, z2, z3⟩ ⟨z2, z3, z4⟩
  have hf : ∀ i, (i < 2 ∨ 8 < i) → f2 i = f i := by
    intro i hi
    rw [k2 i (by omega), zup_ne (by omega), zup_ne (by omega), zup_ne (by omega)]
  have hfq : ∀ i, (i = 3 ∨ i = 4 ∨ i = q ∨ i = q + 1) → f2 i = f i := by
    intro i hi
    rw [k2 i (by omega), zup_ne (by omega), zup_ne (by omega), zup_ne (by omega)]
  refine ⟨f2, P2, n2, ?_, hf, ⟨p, q, W, b, k, hpq, ⟨?_, (hfq 3 (by omega)).trans x1, (hfq 4 (by omega)).trans x2⟩, fun i hi => hW i (by omega), k3, (hfq q (by omega)).trans hq, (hfq (q + 1) (by omega)).trans hqb, by omega, fun i hi => hX i (by omega)⟩, k4⟩
  · rw [zs_X1_removeLast]
    refine Eq.trans ?_ k1
    simp (disch := omega) only [ze_X1_removeLast_0, ze_X1_removeLast_5, ze_X1_removeLast_9, ze_X1_removeLast_12, ze_X1_removeLast_16, ze_X1_removeLast_21, ze_X1_removeLast_25, ze_X1_removeLast_28, ze_X1_removeLast_35, ze_X1_removeLast_38, ze_X1_removeLast_42, ze_X1_removeLast_46, ze_X1_removeLast_48, ze_X1_removeLast_51, ze_X1_removeLast_58, zcal_x, zfh_nil, zfh_cons, zset_0, zset_1, zset_s, zcal_v, zcal_n, zcalI_n, zco_O, zcf_O, zcs_O, zisc_O, zr8_A, zr8_S, zri_A, zri_B, zri_C, zrl_L, zrd_D, zrs_R, zgi_A, zgi_S, zgi_B, zgi_C, zgl_L, zgd_D, zisa_A, zisa_S, zisa_L, zisa_B, zisa_R, zln_A, zln_S, zln_L, zln_B, zln_R, zwi_A, zwl_L, zwd_D, zclr_i, zclr_r, zclr_l, zclr_d, zclr_n, zok_i, zok_l, zok_b0, zok_b1, I_add, I_sub, I_mul, I_neg, J_add, J_sub, J_mul, J_toI, I_ofNat, I_cl, I_J, I_ne2, zup_same, zup_up, zup_ne, zc1_eqB, zc1_neB, zret_b, zret_b0, zret_b1, List.getD_cons_zero, List.getD_cons_succ, List.length_cons, List.length_nil, List.set_cons_zero, List.set_cons_succ, Option.toList, List.cons_append, List.nil_append, Int.cast_ofNat_Int, decide_eq_true_eq, Bool.and_eq_true, and_self, true_and, and_true, if_true, if_false, not_true_eq_false, not_false_eq_true, ↓reduceIte, Nat.reduceAdd, Nat.reduceLT, Nat.reduceLeDiff, Nat.reduceEqDiff, Int.reduceAdd, Int.reduceSub, Int.reduceMul, Int.reduceNeg, Int.reduceLT, Int.reduceLE, Int.reduceEq, Int.reduceToNat, Int.toNat_natCast, Nat.lt_add_one, Nat.zero_lt_succ, q1_eq_t, q1_eq_f, q2_eq_t, q2_eq_f, ql_eq_t, ql_eq_f, q1_ne_t, q1_ne_f, q2_ne_t, q2_ne_f, ql_ne_t, ql_ne_f, q1_lt_t, q1_lt_f, q2_lt_t, q2_lt_f, ql_lt_t, ql_lt_f, q1_ge_t, q1_ge_f, q2_ge_t, q2_ge_f, ql_ge_t, ql_ge_f, q1_gt_t, q1_gt_f, q2_gt_t, q2_gt_f, ql_gt_t, ql_gt_f, q1_le_t, q1_le_f, q2_le_t, q2_le_f, ql_le_t, ql_le_f, zib_t, qb_t, qb_f, nk_add, nk_mul, nk_sub, nk_d1, nk_d0, nk_toNat, nk_r1, nk_l1, nk_m1, nk_n1, nk_s1, nk_t1, nk_r2, nk_l2, nk_m2, nk_n2, nk_s2, nk_t2, nk_r3, nk_l3, nk_m3, nk_n3, nk_s3, nk_t3, nk_r4, nk_l4, nk_m4, nk_n4, nk_s4, nk_t4, nk_r6, nk_l6, nk_m6, nk_n6, nk_s6, nk_t6, nk_r7, nk_l7, nk_m7, nk_n7, nk_s7, nk_t7, nk_r8, nk_l8, nk_m8, nk_n8, nk_s8, nk_t8, nk_r12, nk_l12, nk_m12, nk_n12, nk_s12, nk_t12, nk_r31, nk_l31, nk_m31, nk_n31, nk_s31, nk_t31, nk_r32, nk_l32, nk_m32, nk_n32, nk_s32, nk_t32, nk_r59, nk_l59, nk_m59, nk_n59, nk_s59, nk_t59, nk_r60, nk_l60, nk_m60, nk_n60, nk_s60, nk_t60, nk_r96, nk_l96, nk_m96, nk_n96, nk_s96, nk_t96, nk_r97, nk_l97, nk_m97, nk_n97, nk_s97, nk_t97, nk_r120, nk_l120, nk_m120, nk_n120, nk_s120, nk_t120, nk_r240, nk_l240, nk_m240, nk_n240, nk_s240, nk_t240, nk_r255, nk_l255, nk_m255, nk_n255, nk_s255, nk_t255, nk_r256, nk_l256, nk_m256, nk_n256, nk_s256, nk_t256, Nat.add_zero, Nat.zero_add, Nat.mul_one, Nat.one_mul, Nat.mul_zero, Nat.zero_mul, Nat.sub_zero, Nat.reduceSub, Nat.reduceMul, Nat.add_sub_cancel, Bool.false_eq_true, Int.add_zero, Int.zero_add, Int.sub_zero, x0, h1, e1, zfty_1_2]
  · rw [k2 2 (by omega)]
    simp (disch := omega) only [zup_same, zup_ne]
end
