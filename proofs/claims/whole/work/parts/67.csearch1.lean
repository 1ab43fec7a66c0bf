/-! SPECS: the class's search: an offer, tables of words, leaves -/
def HPP (P : Nat → List Nat) (np nX : Nat) (X : Nat → List Nat) : Prop := np ≤ 60 ∧ 1 ≤ np ∧ spc P np ∧ wok P np ∧ P 0 = [] ∧ fcl P np ∧ ∀ e, e < nX → pmem P np (X e)
def SI (f : zF) (P : Nat → List Nat) (np nX : Nat) (X : Nat → List Nat) (G : Nat → Bool) (C CH : Nat → Nat) (s : zW) : Prop := (∃ W U cn : Nat, f 10 = some (kO 5 [.ref 11, .ref 145, .ref 146, .long (J W), .long (J U)]) ∧ W < 1152921504606846976 ∧ U < 1152921504606846976 ∧ (∀ i, W.testBit i = true ↔ ∃ e, e < nX ∧ G e = true ∧ i < np ∧ P i = X e) ∧ (∀ i, U.testBit i = true ↔ ∃ e, e < nX ∧ G e = false ∧ i < np ∧ P i = X e) ∧ CUD f P np cn (fun w _ => w < np) ∧ cn ≤ 420) ∧ f 145 = some (kA 7 (fun k => (C k : Int))) ∧ f 146 = some (kA 62 (fun c => (CH c : Int))) ∧ SO f P np s.1 s.2.1 s.2.2.1
theorem and_sub {x W : Nat} : x &&& W = W ↔ ∀ i, W.testBit i = true → x.testBit i = true := by
  constructor
  · intro h i hi
    rw [← h, Nat.testBit_and, Bool.and_eq_true] at hi
    exact hi.1
  · intro h
    apply Nat.eq_of_testBit_eq
    intro i
    rw [Nat.testBit_and]
    cases hw : W.testBit i with
    | false => rw [Bool.and_false]
    | true => rw [h i hw]; rfl
theorem and_none {x U : Nat} : x &&& U = 0 ↔ ∀ i, U.testBit i = true → ¬ x.testBit i = true := by
  constructor
  · intro h i hi hx
    have : (x &&& U).testBit i = true := by rw [Nat.testBit_and, hi, hx]; rfl
    rw [h, Nat.zero_testBit] at this
    cases this
  · intro h
    apply Nat.eq_of_testBit_eq
    intro i
    rw [Nat.testBit_and, Nat.zero_testBit]
    cases hw : U.testBit i with
    | false => rw [Bool.and_false]
    | true => rw [Bool.and_true, ← Bool.not_eq_true]; exact h i hw
/-- entries on the way through the patterns of a price -/
def mid (pr : Nat) (s0 s : zW) : Prop := EW s ∧ pre s0.1 s0 s ∧ (∀ i, i < s.1 → (s.2.1 i).2.2.2 ≤ pr) ∧ ∀ i, s0.1 ≤ i → i < s.1 → (s.2.1 i).2.2.2 = pr
section
variable {d np nX : Nat} {f : zF} {m : zM} {P X : Nat → List Nat} {G : Nat → Bool} {C CH : Nat → Nat} {s s0 : zW} {k a b pr : Nat}
theorem mid_off (h : mid pr s0 s) (ho : okoff s k a b pr) : mid pr s0 (zoff P np nX X G k a b pr s) := by
  obtain ⟨h1, h2, h3, h4⟩ := h
  obtain ⟨g1, g2, g3⟩ := zoff_ok (P := P) (np := np) (nX := nX) (X := X) (G := G) h1 ho
  refine ⟨g1, ⟨Nat.le_trans h2.1 g2.1, fun i hi => ?_⟩, fun i hi => ?_, fun i hi hi2 => ?_⟩
  · have h5 := g2.2 i (Nat.lt_of_lt_of_le hi h2.1)
    have h6 := h2.2 i hi
    exact ⟨h5.1.trans h6.1, h5.2.trans h6.2⟩
  · by_cases hs : i < s.1
    · rw [(g2.2 i hs).1]; exact h3 i hs
    · exact Nat.le_of_eq (g3 i hi (by omega))
  · by_cases hs : i < s.1
    · rw [(g2.2 i hs).1]; exact h4 i hi hs
    · exact g3 i hi2 (by omega)
theorem s_offer (hd : 4 ≤ d) (hH : HPP P np nX X) (h : SI f P np nX X G C CH s) (hst : s.2.2.2 = 0) (ho : okoff s k a b pr) : ∃ f', zrun zTb d 49 [.ref 10, .int (I k), .int (I a), .int (I b), .int (I pr), .long (J (tbn P (mkT s.2.2.1 k a b) np : Nat))] f m = some (.inl (some (.int (I ((zoff P np nX X G k a b pr s).2.2.2 : Nat)))), f', m) ∧ SI f' P np nX X G C CH (zoff P np nX X G k a b pr s) ∧ fre 11 140 f f' := by
  obtain ⟨d, rfl⟩ : ∃ e, d = e + 1 := ⟨d - 1, by omega⟩
  obtain ⟨H1, H2, H3, H4, H5, H6, H7⟩ := hH
  obtain ⟨o1, o2, o3, o4, o5, o6, o7, o8, o9, o10⟩ := ho
  have hSI := h
  obtain ⟨⟨W, U, cn, x10, w1, w2, w3, w4, w5, w6⟩, x145, x146, hSO⟩ := h
  have hSO' := hSO
  obtain ⟨KS, FS, SS, NS, TS, SL, WT, TB, hsto, h18, h139, h140, hrw, hrk, hSL, hn, hE⟩ := hSO
  have hTBt := fun k hk => (hE k hk).2.2.2.2.2
  have hTBl := SO_lt H1 hTBt
  have hxl := tbn_lt (P := P) (t := mkT s.2.2.1 k a b) H1
  have e2 := s_X6_isFull (d := d) (m := m) (by omega) hsto hn
  rcases s_holds (d := d) (m := m) (by omega) hn hsto h139 hSL hxl hTBl with ⟨⟨k1, g1, g2⟩, e1⟩ | ⟨g1, e1⟩
  · have hz : zoff P np nX X G k a b pr s = s := by
      unfold zoff
      rw [if_neg (fun z => z hst), if_pos (hasT_iff _ |>.mpr ⟨k1, g1, (hTBt k1 g1).symm.trans g2⟩)]
    rw [hz, hst]
    refine ⟨f, ?_, hSI, fre_refl⟩
    rw [zs_X5_offer]
    simp (disch := omega) only [ze_X5_offer_0, ze_X5_offer_4, ze_X5_offer_9, ze_X5_offer_12, ze_X5_offer_14, ze_X5_offer_18, ze_X5_offer_21, ze_X5_offer_24, ze_X5_offer_26, ze_X5_offer_30, ze_X5_offer_40, ze_X5_offer_46, ze_X5_offer_51, ze_X5_offer_55, ze_X5_offer_61, ze_X5_offer_67, ze_X5_offer_71, ze_X5_offer_79, ze_X5_offer_83, zcal_x, zfh_nil, zfh_cons, zset_0, zset_1, zset_s, zcal_v, zcal_n, zcalI_n, zco_O, zcf_O, zcs_O, zisc_O, zr8_A, zr8_S, zri_A, zri_B, zri_C, zrl_L, zrd_D, zrs_R, zgi_A, zgi_S, zgi_B, zgi_C, zgl_L, zgd_D, zisa_A, zisa_S, zisa_L, zisa_B, zisa_R, zln_A, zln_S, zln_L, zln_B, zln_R, zwi_A, zwl_L, zwd_D, zclr_i, zclr_r, zclr_l, zclr_d, zclr_n, zok_i, zok_l, zok_b0, zok_b1, I_add, I_sub, I_mul, I_neg, J_add, J_sub, J_mul, J_toI, I_ofNat, I_cl, I_J, I_ne2, zup_same, zup_up, zup_ne, zc1_eqB, zc1_neB, zret_b, zret_b0, zret_b1, List.getD_cons_zero, List.getD_cons_succ, List.length_cons, List.length_nil, List.set_cons_zero, List.set_cons_succ, Option.toList, List.cons_append, List.nil_append, Int.cast_ofNat_Int, decide_eq_true_eq, Bool.and_eq_true, and_self, true_and, and_true, if_true, if_false, not_true_eq_false, not_false_eq_true, ↓reduceIte, Nat.reduceAdd, Nat.reduceLT, Nat.reduceLeDiff, Nat.reduceEqDiff, Int.reduceAdd, Int.reduceSub, Int.reduceMul, Int.reduceNeg, Int.reduceLT, Int.reduceLE, Int.reduceEq, Int.reduceToNat, Int.toNat_natCast, Nat.lt_add_one, Nat.zero_lt_succ, q1_eq_t, q1_eq_f, q2_eq_t, q2_eq_f, ql_eq_t, ql_eq_f, q1_ne_t, q1_ne_f, q2_ne_t, q2_ne_f, ql_ne_t, ql_ne_f, q1_lt_t, q1_lt_f, q2_lt_t, q2_lt_f, ql_lt_t, ql_lt_f, q1_ge_t, q1_ge_f, q2_ge_t, q2_ge_f, ql_ge_t, ql_ge_f, q1_gt_t, q1_gt_f, q2_gt_t, q2_gt_f, ql_gt_t, ql_gt_f, q1_le_t, q1_le_f, q2_le_t, q2_le_f, ql_le_t, ql_le_f, zib_t, qb_t, qb_f, nk_add, nk_mul, nk_sub, nk_d1, nk_d0, nk_toNat, nk_r1, nk_l1, nk_m1, nk_n1, nk_s1, nk_t1, nk_r2, nk_l2, nk_m2, nk_n2, nk_s2, nk_t2, nk_r3, nk_l3, nk_m3, nk_n3, nk_s3, nk_t3, nk_r4, nk_l4, nk_m4, nk_n4, nk_s4, nk_t4, nk_r6, nk_l6, nk_m6, nk_n6, nk_s6, nk_t6, nk_r7, nk_l7, nk_m7, nk_n7, nk_s7, nk_t7, nk_r8, nk_l8, nk_m8, nk_n8, nk_s8, nk_t8, nk_r12, nk_l12, nk_m12, nk_n12, nk_s12, nk_t12, nk_r31, nk_l31, nk_m31, nk_n31, nk_s31, nk_t31, nk_r32, nk_l32, nk_m32, nk_n32, nk_s32, nk_t32, nk_r59, nk_l59, nk_m59, nk_n59, nk_s59, nk_t59, nk_r60, nk_l60, nk_m60, nk_n60, nk_s60, nk_t60, nk_r96, nk_l96, nk_m96, nk_n96, nk_s96, nk_t96, nk_r97, nk_l97, nk_m97, nk_n97, nk_s97, nk_t97, nk_r120, nk_l120, nk_m120, nk_n120, nk_s120, nk_t120, nk_r240, nk_l240, nk_m240, nk_n240, nk_s240, nk_t240, nk_r255, nk_l255, nk_m255, nk_n255, nk_s255, nk_t255, nk_r256, nk_l256, nk_m256, nk_n256, nk_s256, nk_t256, Nat.add_zero, Nat.zero_add, Nat.mul_one, Nat.one_mul, Nat.mul_zero, Nat.zero_mul, Nat.sub_zero, Nat.reduceSub, Nat.reduceMul, Nat.add_sub_cancel, Bool.false_eq_true, Int.add_zero, Int.zero_add, Int.sub_zero, x10, hsto.1, e1]
  · have hno : ¬ hasT P np s.2.2.1 (tbn P (mkT s.2.2.1 k a b) np) s.1 = true := by
      rw [hasT_iff]
      rintro ⟨k1, g2, g3⟩
      exact g1 k1 g2 ((hTBt k1 g2).trans g3)
    by_cases hfull : s.1 = 120
    · have hz : zoff P np nX X G k a b pr s = (s.1, s.2.1, s.2.2.1, 2) := by
        unfold zoff
        rw [if_neg (fun z => z hst), if_neg hno, if_pos hfull]
      rw [hz]
      refine ⟨f, ?_, ⟨⟨W, U, cn, x10, w1, w2, w3, w4, w5, w6⟩, x145, x146, hSO'⟩, fre_refl⟩
      rw [if_pos hfull] at e2
      rw [zs_X5_offer]
      simp (disch := omega) only [ze_X5_offer_0, ze_X5_offer_4, ze_X5_offer_9, ze_X5_offer_12, ze_X5_offer_14, ze_X5_offer_18, ze_X5_offer_21, ze_X5_offer_24, ze_X5_offer_26, ze_X5_offer_30, ze_X5_offer_40, ze_X5_offer_46, ze_X5_offer_51, ze_X5_offer_55, ze_X5_offer_61, ze_X5_offer_67, ze_X5_offer_71, ze_X5_offer_79, ze_X5_offer_83, zcal_x, zfh_nil, zfh_cons, zset_0, zset_1, zset_s, zcal_v, zcal_n, zcalI_n, zco_O, zcf_O, zcs_O, zisc_O, zr8_A, zr8_S, zri_A, zri_B, zri_C, zrl_L, zrd_D, zrs_R, zgi_A, zgi_S, zgi_B, zgi_C, zgl_L, zgd_D, zisa_A, zisa_S, zisa_L, zisa_B, zisa_R, zln_A, zln_S, zln_L, zln_B, zln_R, zwi_A, zwl_L, zwd_D, zclr_i, zclr_r, zclr_l, zclr_d, zclr_n, zok_i, zok_l, zok_b0, zok_b1, I_add, I_sub, I_mul, I_neg, J_add, J_sub, J_mul, J_toI, I_ofNat, I_cl, I_J, I_ne2, zup_same, zup_up, zup_ne, zc1_eqB, zc1_neB, zret_b, zret_b0, zret_b1, List.getD_cons_zero, List.getD_cons_succ, List.length_cons, List.length_nil, List.set_cons_zero, List.set_cons_succ, Option.toList, List.cons_append, List.nil_append, Int.cast_ofNat_Int, decide_eq_true_eq, Bool.and_eq_true, and_self, true_and, and_true, if_true, if_false, not_true_eq_false, not_false_eq_true, ↓reduceIte, Nat.reduceAdd, Nat.reduceLT, Nat.reduceLeDiff, Nat.reduceEqDiff, Int.reduceAdd, Int.reduceSub, Int.reduceMul, Int.reduceNeg, Int.reduceLT, Int.reduceLE, Int.reduceEq, Int.reduceToNat, Int.toNat_natCast, Nat.lt_add_one, Nat.zero_lt_succ, q1_eq_t, q1_eq_f, q2_eq_t, q2_eq_f, ql_eq_t, ql_eq_f, q1_ne_t, q1_ne_f, q2_ne_t, q2_ne_f, ql_ne_t, ql_ne_f, q1_lt_t, q1_lt_f, q2_lt_t, q2_lt_f, ql_lt_t, ql_lt_f, q1_ge_t, q1_ge_f, q2_ge_t, q2_ge_f, ql_ge_t, ql_ge_f, q1_gt_t, q1_gt_f, q2_gt_t, q2_gt_f, ql_gt_t, ql_gt_f, q1_le_t, q1_le_f, q2_le_t, q2_le_f, ql_le_t, ql_le_f, zib_t, qb_t, qb_f, nk_add, nk_mul, nk_sub, nk_d1, nk_d0, nk_toNat, nk_r1, nk_l1, nk_m1, nk_n1, nk_s1, nk_t1, nk_r2, nk_l2, nk_m2, nk_n2, nk_s2, nk_t2, nk_r3, nk_l3, nk_m3, nk_n3, nk_s3, nk_t3, nk_r4, nk_l4, nk_m4, nk_n4, nk_s4, nk_t4, nk_r6, nk_l6, nk_m6, nk_n6, nk_s6, nk_t6, nk_r7, nk_l7, nk_m7, nk_n7, nk_s7, nk_t7, nk_r8, nk_l8, nk_m8, nk_n8, nk_s8, nk_t8, nk_r12, nk_l12, nk_m12, nk_n12, nk_s12, nk_t12, nk_r31, nk_l31, nk_m31, nk_n31, nk_s31, nk_t31, nk_r32, nk_l32, nk_m32, nk_n32, nk_s32, nk_t32, nk_r59, nk_l59, nk_m59, nk_n59, nk_s59, nk_t59, nk_r60, nk_l60, nk_m60, nk_n60, nk_s60, nk_t60, nk_r96, nk_l96, nk_m96, nk_n96, nk_s96, nk_t96, nk_r97, nk_l97, nk_m97, nk_n97, nk_s97, nk_t97, nk_r120, nk_l120, nk_m120, nk_n120, nk_s120, nk_t120, nk_r240, nk_l240, nk_m240, nk_n240, nk_s240, nk_t240, nk_r255, nk_l255, nk_m255, nk_n255, nk_s255, nk_t255, nk_r256, nk_l256, nk_m256, nk_n256, nk_s256, nk_t256, Nat.add_zero, Nat.zero_add, Nat.mul_one, Nat.one_mul, Nat.mul_zero, Nat.zero_mul, Nat.sub_zero, Nat.reduceSub, Nat.reduceMul, Nat.add_sub_cancel, Bool.false_eq_true, Int.add_zero, Int.zero_add, Int.sub_zero, x10, hsto.1, e1, e2]
    · have hz : zoff P np nX X G k a b pr s = (s.1 + 1, zst s.2.1 s.1 (k, a, b, pr), zst s.2.2.1 s.1 (mkT s.2.2.1 k a b), if rgt X G (mkT s.2.2.1 k a b) nX = true then 1 else 0) := by
        unfold zoff
        rw [if_neg (fun z => z hst), if_neg hno, if_neg hfull]
      rw [hz]
      rw [if_neg hfull] at e2
      obtain ⟨f1, e3, f2, f3⟩ := s_sapp (d := d) (m := m) (kd := k) (a := a) (b := b) (pr := pr) (t := mkT s.2.2.1 k a b) (by omega) hSO' (by omega) H1 H3 w5 w6 o1 o5 o6 o3 o4 o8 rfl (by omega) (fun k1 g2 g3 => g1 k1 g2 ((hTBt k1 g2).trans g3))
      have y10 := (f3 10 (by omega)).trans x10
      have hSI2 : SI f1 P np nX X G C CH (s.1 + 1, zst s.2.1 s.1 (k, a, b, pr), zst s.2.2.1 s.1 (mkT s.2.2.1 k a b), if rgt X G (mkT s.2.2.1 k a b) nX = true then 1 else 0) := by
        refine ⟨⟨W, U, cn, y10, w1, w2, w3, w4, ?_, w6⟩, (f3 145 (by omega)).trans x145, (f3 146 (by omega)).trans x146, f2⟩
        obtain ⟨FR, BK, WH, c1, c2, c3, c4, c5⟩ := w5
        exact ⟨FR, BK, WH, (f3 _ (by omega)).trans c1, (f3 _ (by omega)).trans c2, (f3 _ (by omega)).trans c3, (f3 _ (by omega)).trans c4, c5⟩
      have hr : rgt X G (mkT s.2.2.1 k a b) nX = true ↔ (tbn P (mkT s.2.2.1 k a b) np &&& W = W ∧ tbn P (mkT s.2.2.1 k a b) np &&& U = 0) := by
        rw [rgt_iff, and_sub, and_none]
        constructor
        · intro h
          constructor
          · intro i hi
            obtain ⟨e, g2, g3, g4, g5⟩ := (w3 i).mp hi
            rw [tbn_bit, g5, ← mb_iff, h e g2]; exact ⟨g4, g3⟩
          · intro i hi
            obtain ⟨e, g2, g3, g4, g5⟩ := (w4 i).mp hi
            rw [tbn_bit, g5, ← mb_iff, h e g2, g3]
            exact fun z => Bool.false_ne_true z.2
        · rintro ⟨h1, h2⟩ e he
          obtain ⟨i, g2, g3⟩ := H7 e he
          cases hg : G e with
          | true =>
            have := h1 i ((w3 i).mpr ⟨e, he, hg, g2, g3⟩)
            rw [tbn_bit, g3, ← mb_iff] at this
            exact this.2
          | false =>
            have := h2 i ((w4 i).mpr ⟨e, he, hg, g2, g3⟩)
            rw [tbn_bit, g3, ← mb_iff] at this
            rw [← Bool.not_eq_true]
            exact fun z => this ⟨g2, z⟩
      have l1 : tbn P (mkT s.2.2.1 k a b) np &&& W ≤ tbn P (mkT s.2.2.1 k a b) np := Nat.and_le_left
      have l2 : tbn P (mkT s.2.2.1 k a b) np &&& U ≤ tbn P (mkT s.2.2.1 k a b) np := Nat.and_le_left
      refine ⟨f1, ?_, hSI2, f3⟩
      rw [zs_X5_offer]
      by_cases h1 : tbn P (mkT s.2.2.1 k a b) np &&& W = W
      · by_cases h2 : tbn P (mkT s.2.2.1 k a b) np &&& U = 0
        · rw [if_pos (hr.mpr ⟨h1, h2⟩)]
          simp (disch := omega) only [ze_X5_offer_0, ze_X5_offer_4, ze_X5_offer_9, ze_X5_offer_12, ze_X5_offer_14, ze_X5_offer_18, ze_X5_offer_21, ze_X5_offer_24, ze_X5_offer_26, ze_X5_offer_30, ze_X5_offer_40, ze_X5_offer_46, ze_X5_offer_51, ze_X5_offer_55, ze_X5_offer_61, ze_X5_offer_67, ze_X5_offer_71, ze_X5_offer_79, ze_X5_offer_83, zcal_x, zfh_nil, zfh_cons, zset_0, zset_1, zset_s, zcal_v, zcal_n, zcalI_n, zco_O, zcf_O, zcs_O, zisc_O, zr8_A, zr8_S, zri_A, zri_B, zri_C, zrl_L, zrd_D, zrs_R, zgi_A, zgi_S, zgi_B, zgi_C, zgl_L, zgd_D, zisa_A, zisa_S, zisa_L, zisa_B, zisa_R, zln_A, zln_S, zln_L, zln_B, zln_R, zwi_A, zwl_L, zwd_D, zclr_i, zclr_r, zclr_l, zclr_d, zclr_n, zok_i, zok_l, zok_b0, zok_b1, I_add, I_sub, I_mul, I_neg, J_add, J_sub, J_mul, J_toI, I_ofNat, I_cl, I_J, I_ne2, zup_same, zup_up, zup_ne, zc1_eqB, zc1_neB, zret_b, zret_b0, zret_b1, List.getD_cons_zero, List.getD_cons_succ, List.length_cons, List.length_nil, List.set_cons_zero, List.set_cons_succ, Option.toList, List.cons_append, List.nil_append, Int.cast_ofNat_Int, decide_eq_true_eq, Bool.and_eq_true, and_self, true_and, and_true, if_true, if_false, not_true_eq_false, not_false_eq_true, ↓reduceIte, Nat.reduceAdd, Nat.reduceLT, Nat.reduceLeDiff, Nat.reduceEqDiff, Int.reduceAdd, Int.reduceSub, Int.reduceMul, Int.reduceNeg, Int.reduceLT, Int.reduceLE, Int.reduceEq, Int.reduceToNat, Int.toNat_natCast, Nat.lt_add_one, Nat.zero_lt_succ, q1_eq_t, q1_eq_f, q2_eq_t, q2_eq_f, ql_eq_t, ql_eq_f, q1_ne_t, q1_ne_f, q2_ne_t, q2_ne_f, ql_ne_t, ql_ne_f, q1_lt_t, q1_lt_f, q2_lt_t, q2_lt_f, ql_lt_t, ql_lt_f, q1_ge_t, q1_ge_f, q2_ge_t, q2_ge_f, ql_ge_t, ql_ge_f, q1_gt_t, q1_gt_f, q2_gt_t, q2_gt_f, ql_gt_t, ql_gt_f, q1_le_t, q1_le_f, q2_le_t, q2_le_f, ql_le_t, ql_le_f, zib_t, qb_t, qb_f, nk_add, nk_mul, nk_sub, nk_d1, nk_d0, nk_toNat, nk_r1, nk_l1, nk_m1, nk_n1, nk_s1, nk_t1, nk_r2, nk_l2, nk_m2, nk_n2, nk_s2, nk_t2, nk_r3, nk_l3, nk_m3, nk_n3, nk_s3, nk_t3, nk_r4, nk_l4, nk_m4, nk_n4, nk_s4, nk_t4, nk_r6, nk_l6, nk_m6, nk_n6, nk_s6, nk_t6, nk_r7, nk_l7, nk_m7, nk_n7, nk_s7, nk_t7, nk_r8, nk_l8, nk_m8, nk_n8, nk_s8, nk_t8, nk_r12, nk_l12, nk_m12, nk_n12, nk_s12, nk_t12, nk_r31, nk_l31, nk_m31, nk_n31, nk_s31, nk_t31, nk_r32, nk_l32, nk_m32, nk_n32, nk_s32, nk_t32, nk_r59, nk_l59, nk_m59, nk_n59, nk_s59, nk_t59, nk_r60, nk_l60, nk_m60, nk_n60, nk_s60, nk_t60, nk_r96, nk_l96, nk_m96, nk_n96, nk_s96, nk_t96, nk_r97, nk_l97, nk_m97, nk_n97, nk_s97, nk_t97, nk_r120, nk_l120, nk_m120, nk_n120, nk_s120, nk_t120, nk_r240, nk_l240, nk_m240, nk_n240, nk_s240, nk_t240, nk_r255, nk_l255, nk_m255, nk_n255, nk_s255, nk_t255, nk_r256, nk_l256, nk_m256, nk_n256, nk_s256, nk_t256, Nat.add_zero, Nat.zero_add, Nat.mul_one, Nat.one_mul, Nat.mul_zero, Nat.zero_mul, Nat.sub_zero, Nat.reduceSub, Nat.reduceMul, Nat.add_sub_cancel, Bool.false_eq_true, Int.add_zero, Int.zero_add, Int.sub_zero, x10, hsto.1, e1, e2, e3, y10, J_and]
        · rw [if_neg (fun z => h2 (hr.mp z).2)]
          simp (disch := omega) only [ze_X5_offer_0, ze_X5_offer_4, ze_X5_offer_9, ze_X5_offer_12, ze_X5_offer_14, ze_X5_offer_18, ze_X5_offer_21, ze_X5_offer_24, ze_X5_offer_26, ze_X5_offer_30, ze_X5_offer_40, ze_X5_offer_46, ze_X5_offer_51, ze_X5_offer_55, ze_X5_offer_61, ze_X5_offer_67, ze_X5_offer_71, ze_X5_offer_79, ze_X5_offer_83, zcal_x, zfh_nil, zfh_cons, zset_0, zset_1, zset_s, zcal_v, zcal_n, zcalI_n, zco_O, zcf_O, zcs_O, zisc_O, zr8_A, zr8_S, zri_A, zri_B, zri_C, zrl_L, zrd_D, zrs_R, zgi_A, zgi_S, zgi_B, zgi_C, zgl_L, zgd_D, zisa_A, zisa_S, zisa_L, zisa_B, zisa_R, zln_A, zln_S, zln_L, zln_B, zln_R, zwi_A, zwl_L, zwd_D, zclr_i, zclr_r, zclr_l, zclr_d, zclr_n, zok_i, zok_l, zok_b0, zok_b1, I_add, I_sub, I_mul, I_neg, J_add, J_sub, J_mul, J_toI, I_ofNat, I_cl, I_J, I_ne2, zup_same, zup_up, zup_ne, zc1_eqB, zc1_neB, zret_b, zret_b0, zret_b1, List.getD_cons_zero, List.getD_cons_succ, List.length_cons, List.length_nil, List.set_cons_zero, List.set_cons_succ, Option.toList, List.cons_append, List.nil_append, Int.cast_ofNat_Int, decide_eq_true_eq, Bool.and_eq_true, and_self, true_and, and_true, if_true, if_false, not_true_eq_false, not_false_eq_true, ↓reduceIte, Nat.reduceAdd, Nat.reduceLT, Nat.reduceLeDiff, Nat.reduceEqDiff, Int.reduceAdd, Int.reduceSub, Int.reduceMul, Int.reduceNeg, Int.reduceLT, Int.reduceLE, Int.reduceEq, Int.reduceToNat, Int.toNat_natCast, Nat.lt_add_one, Nat.zero_lt_succ, q1_eq_t, q1_eq_f, q2_eq_t, q2_eq_f, ql_eq_t, ql_eq_f, q1_ne_t, q1_ne_f, q2_ne_t, q2_ne_f, ql_ne_t, ql_ne_f, q1_lt_t, q1_lt_f, q2_lt_t, q2_lt_f, ql_lt_t, ql_lt_f, q1_ge_t, q1_ge_f, q2_ge_t, q2_ge_f, ql_ge_t, ql_ge_f, q1_gt_t, q1_gt_f, q2_gt_t, q2_gt_f, ql_gt_t, ql_gt_f, q1_le_t, q1_le_f, q2_le_t, q2_le_f, ql_le_t, ql_le_f, zib_t, qb_t, qb_f, nk_add, nk_mul, nk_sub, nk_d1, nk_d0, nk_toNat, nk_r1, nk_l1, nk_m1, nk_n1, nk_s1, nk_t1, nk_r2, nk_l2, nk_m2, nk_n2, nk_s2, nk_t2, nk_r3, nk_l3, nk_m3, nk_n3, nk_s3, nk_t3, nk_r4, nk_l4, nk_m4, nk_n4, nk_s4, nk_t4, nk_r6, nk_l6, nk_m6, nk_n6, nk_s6, nk_t6, nk_r7, nk_l7, nk_m7, nk_n7, nk_s7, nk_t7, nk_r8, nk_l8, nk_m8, nk_n8, nk_s8, nk_t8, nk_r12, nk_l12, nk_m12, nk_n12, nk_s12, nk_t12, nk_r31, nk_l31, nk_m31, nk_n31, nk_s31, nk_t31, nk_r32, nk_l32, nk_m32, nk_n32, nk_s32, nk_t32, nk_r59, nk_l59, nk_m59, nk_n59, nk_s59, nk_t59, nk_r60, nk_l60, nk_m60, nk_n60, nk_s60, nk_t60, nk_r96, nk_l96, nk_m96, nk_n96, nk_s96, nk_t96, nk_r97, nk_l97, nk_m97, nk_n97, nk_s97, nk_t97, nk_r120, nk_l120, nk_m120, nk_n120, nk_s120, nk_t120, nk_r240, nk_l240, nk_m240, nk_n240, nk_s240, nk_t240, nk_r255, nk_l255, nk_m255, nk_n255, nk_s255, nk_t255, nk_r256, nk_l256, nk_m256, nk_n256, nk_s256, nk_t256, Nat.add_zero, Nat.zero_add, Nat.mul_one, Nat.one_mul, Nat.mul_zero, Nat.zero_mul, Nat.sub_zero, Nat.reduceSub, Nat.reduceMul, Nat.add_sub_cancel, Bool.false_eq_true, Int.add_zero, Int.zero_add, Int.sub_zero, x10, hsto.1, e1, e2, e3, y10, J_and]
      · rw [if_neg (fun z => h1 (hr.mp z).1)]
        simp (disch := omega) only [ze_X5_offer_0, ze_X5_offer_4, ze_X5_offer_9, ze_X5_offer_12, ze_X5_offer_14, ze_X5_offer_18, ze_X5_offer_21, ze_X5_offer_24, ze_X5_offer_26, ze_X5_offer_30, ze_X5_offer_40, ze_X5_offer_46, ze_X5_offer_51, ze_X5_offer_55, ze_X5_offer_61, ze_X5_offer_67, ze_X5_offer_71, ze_X5_offer_79, ze_X5_offer_83, zcal_x, zfh_nil, zfh_cons, zset_0, zset_1, zset_s, zcal_v, zcal_n, zcalI_n, zco_O, zcf_O, zcs_O, zisc_O, zr8_A, zr8_S, zri_A, zri_B, zri_C, zrl_L, zrd_D, zrs_R, zgi_A, zgi_S, zgi_B, zgi_C, zgl_L, zgd_D, zisa_A, zisa_S, zisa_L, zisa_B, zisa_R, zln_A, zln_S, zln_L, zln_B, zln_R, zwi_A, zwl_L, zwd_D, zclr_i, zclr_r, zclr_l, zclr_d, zclr_n, zok_i, zok_l, zok_b0, zok_b1, I_add, I_sub, I_mul, I_neg, J_add, J_sub, J_mul, J_toI, I_ofNat, I_cl, I_J, I_ne2, zup_same, zup_up, zup_ne, zc1_eqB, zc1_neB, zret_b, zret_b0, zret_b1, List.getD_cons_zero, List.getD_cons_succ, List.length_cons, List.length_nil, List.set_cons_zero, List.set_cons_succ, Option.toList, List.cons_append, List.nil_append, Int.cast_ofNat_Int, decide_eq_true_eq, Bool.and_eq_true, and_self, true_and, and_true, if_true, if_false, not_true_eq_false, not_false_eq_true, ↓reduceIte, Nat.reduceAdd, Nat.reduceLT, Nat.reduceLeDiff, Nat.reduceEqDiff, Int.reduceAdd, Int.reduceSub, Int.reduceMul, Int.reduceNeg, Int.reduceLT, Int.reduceLE, Int.reduceEq, Int.reduceToNat, Int.toNat_natCast, Nat.lt_add_one, Nat.zero_lt_succ, q1_eq_t, q1_eq_f, q2_eq_t, q2_eq_f, ql_eq_t, ql_eq_f, q1_ne_t, q1_ne_f, q2_ne_t, q2_ne_f, ql_ne_t, ql_ne_f, q1_lt_t, q1_lt_f, q2_lt_t, q2_lt_f, ql_lt_t, ql_lt_f, q1_ge_t, q1_ge_f, q2_ge_t, q2_ge_f, ql_ge_t, ql_ge_f, q1_gt_t, q1_gt_f, q2_gt_t, q2_gt_f, ql_gt_t, ql_gt_f, q1_le_t, q1_le_f, q2_le_t, q2_le_f, ql_le_t, ql_le_f, zib_t, qb_t, qb_f, nk_add, nk_mul, nk_sub, nk_d1, nk_d0, nk_toNat, nk_r1, nk_l1, nk_m1, nk_n1, nk_s1, nk_t1, nk_r2, nk_l2, nk_m2, nk_n2, nk_s2, nk_t2, nk_r3, nk_l3, nk_m3, nk_n3, nk_s3, nk_t3, nk_r4, nk_l4, nk_m4, nk_n4, nk_s4, nk_t4, nk_r6, nk_l6, nk_m6, nk_n6, nk_s6, nk_t6, nk_r7, nk_l7, nk_m7, nk_n7, nk_s7, nk_t7, nk_r8, nk_l8, nk_m8, nk_n8, nk_s8, nk_t8, nk_r12, nk_l12, nk_m12, nk_n12, nk_s12, nk_t12, nk_r31, nk_l31, nk_m31, nk_n31, nk_s31, nk_t31, nk_r32, nk_l32, nk_m32, nk_n32, nk_s32, nk_t32, nk_r59, nk_l59, nk_m59, nk_n59, nk_s59, nk_t59, nk_r60, nk_l60, nk_m60, nk_n60, nk_s60, nk_t60, nk_r96, nk_l96, nk_m96, nk_n96, nk_s96, nk_t96, nk_r97, nk_l97, nk_m97, nk_n97, nk_s97, nk_t97, nk_r120, nk_l120, nk_m120, nk_n120, nk_s120, nk_t120, nk_r240, nk_l240, nk_m240, nk_n240, nk_s240, nk_t240, nk_r255, nk_l255, nk_m255, nk_n255, nk_s255, nk_t255, nk_r256, nk_l256, nk_m256, nk_n256, nk_s256, nk_t256, Nat.add_zero, Nat.zero_add, Nat.mul_one, Nat.one_mul, Nat.mul_zero, Nat.zero_mul, Nat.sub_zero, Nat.reduceSub, Nat.reduceMul, Nat.add_sub_cancel, Bool.false_eq_true, Int.add_zero, Int.zero_add, Int.sub_zero, x10, hsto.1, e1, e2, e3, y10, J_and]
theorem s_ptab {p : Nat} {w : List Nat} {t : zE} (hd : 3 ≤ d) (h : pcs f p P np) (hw : wgood w ∧ w.length ≤ 6) (ht : ∀ u, mt t u ↔ u = w) : zrun zTb d 32 [.ref p, .long (J (wpk w))] f m = some (.inl (some (.long (J (tbn P t np : Nat)))), f, m) := by
  obtain ⟨a, h1, h2, h3, h4, h5, h6⟩ := h
  obtain ⟨r, r1, r2, r3⟩ := spc_place (x := wpk w) np h5
  have hx := wpk_48 hw.1 hw.2
  have hr : psp a np ((wpk w : Nat) : Int) r := ⟨r1, fun i hi => by rw [h3 i (by omega)]; have := r2 i hi; omega, fun i hi hi2 => by rw [h3 i hi2]; have := r3 i hi hi2; omega⟩
  have e := s_X3_tableOf (d := d) (f := f) (m := m) hd h1 h2 h4 (pcs_prg h3 h6) (by omega) hr
  rw [e]
  by_cases hc : r < np ∧ a r = ((wpk w : Nat) : Int)
  · have hPr : P r = w := by
      apply wpk_inj (h6 r hc.1).1 hw.1
      have := hc.2
      rw [h3 r hc.1] at this
      omega
    have : 2 ^ r = tbn P t np := by
      apply tbn_of
      intro i
      rw [Nat.testBit_two_pow, decide_eq_true_eq, ht]
      constructor
      · rintro rfl; exact ⟨hc.1, hPr⟩
      · rintro ⟨g1, g2⟩; exact spc_inj h5 hc.1 g1 (hPr.trans g2.symm)
    rw [if_pos hc, this]
  · have : 0 = tbn P t np := by
      apply tbn_of
      intro i
      rw [Nat.zero_testBit, ht]
      refine ⟨fun z => (by cases z), ?_⟩
      rintro ⟨hi, rfl⟩
      exfalso
      rcases Nat.lt_trichotomy i r with h9 | h9 | h9
      · have := r2 i h9; omega
      · subst h9; exact hc ⟨hi, h3 i hi⟩
      · have h10 := r3 r (Nat.le_refl _) (by omega)
        have h11 := h5 r i h9 hi
        omega
    rw [if_neg hc, ← this]; rfl
end
