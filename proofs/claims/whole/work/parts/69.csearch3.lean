/-! SPECS: the class's search: wraps and joins -/
def fr (CH : Nat → Nat) (j : Int) : Nat := if 0 < j ∧ j < 62 then CH j.toNat else 0
def CHk (CH : Nat → Nat) (pr : Nat) (s0 : zW) : Prop := CH pr = s0.1 ∧ ∀ c, 1 ≤ c → c ≤ pr → CH c ≤ s0.1 ∧ ∀ i, i < s0.1 → (i < CH c ↔ (s0.2.1 i).2.2.2 < c)
theorem EW_pos {s : zW} (h : EW s) : ∀ i, i < s.1 → 1 ≤ (s.2.1 i).2.2.2 := by
  intro i hi
  have := h.2.1 i hi
  have h2 := sz_pos (s.2.2.1 i)
  omega
theorem wr_rng {CH : Nat → Nat} {pr c : Nat} {s0 : zW} (hc : 1 ≤ c) (hpr : 1 ≤ pr ∧ pr ≤ 60) (hCH : CHk CH pr s0) (hEW : EW s0) : fr CH ((pr : Int) - c) ≤ fr CH ((pr : Int) - c + 1) ∧ fr CH ((pr : Int) - c + 1) ≤ s0.1 ∧ (∀ p, p < fr CH ((pr : Int) - c) → ¬ (s0.2.1 p).2.2.2 + c = pr) ∧ (∀ p, fr CH ((pr : Int) - c) ≤ p → p < fr CH ((pr : Int) - c + 1) → (s0.2.1 p).2.2.2 + c = pr) ∧ ∀ p, fr CH ((pr : Int) - c + 1) ≤ p → p < s0.1 → ¬ (s0.2.1 p).2.2.2 + c = pr := by
  have h1 := EW_pos hEW
  obtain ⟨g1, g2⟩ := hCH
  by_cases h : c ≤ pr
  · have e2 : fr CH ((pr : Int) - c + 1) = CH (pr + 1 - c) := by
      unfold fr
      rw [if_pos (by omega), show ((pr : Int) - c + 1).toNat = pr + 1 - c by omega]
    obtain ⟨k1, k2⟩ := g2 (pr + 1 - c) (by omega) (by omega)
    rw [e2]
    by_cases h0 : c = pr
    · have e1 : fr CH ((pr : Int) - c) = 0 := by
        unfold fr
        rw [if_neg (by omega)]
      rw [e1]
      refine ⟨by omega, k1, fun p hp => by omega, fun p hp hp2 => ?_, fun p hp hp2 => ?_⟩
      · have := (k2 p (by omega)).mp hp2
        have := h1 p (by omega)
        omega
      · have := h1 p hp2
        omega
    · have e1 : fr CH ((pr : Int) - c) = CH (pr - c) := by
        unfold fr
        rw [if_pos (by omega), show ((pr : Int) - c).toNat = pr - c by omega]
      obtain ⟨k3, k4⟩ := g2 (pr - c) (by omega) (by omega)
      rw [e1]
      refine ⟨?_, k1, fun p hp => ?_, fun p hp hp2 => ?_, fun p hp hp2 => ?_⟩
      · rcases Nat.lt_or_ge (CH (pr + 1 - c)) (CH (pr - c)) with h2 | h2
        · have h3 := (k4 (CH (pr + 1 - c)) (by omega)).mp h2
          have h4 := (k2 (CH (pr + 1 - c)) (by omega)).mpr (by omega)
          omega
        · exact h2
      · have := (k4 p (by omega)).mp hp
        omega
      · have h3 := (k2 p (by omega)).mp hp2
        have h4 : ¬ (s0.2.1 p).2.2.2 < pr - c := fun z => by
          have := (k4 p (by omega)).mpr z
          omega
        omega
      · have h4 : ¬ (s0.2.1 p).2.2.2 < pr + 1 - c := fun z => by
          have := (k2 p hp2).mpr z
          omega
        omega
  · have e1 : fr CH ((pr : Int) - c) = 0 := by
      unfold fr
      rw [if_neg (by omega)]
    have e2 : fr CH ((pr : Int) - c + 1) = 0 := by
      unfold fr
      rw [if_neg (by omega)]
    rw [e1, e2]
    exact ⟨Nat.le_refl _, Nat.zero_le _, fun p hp => by omega, fun p hp hp2 => by omega, fun p hp hp2 => by omega⟩
section
variable {d np nX p q : Nat} {f : zF} {m : zM} {P X : Nat → List Nat} {G : Nat → Bool} {C CH : Nat → Nat} {s s0 : zW} {k a b pr c : Nat} {rest : Int}
theorem s_from (hd : 1 ≤ d) (h : SI f P np nX X G C CH s) {j : Int} (h1 : -2147483648 ≤ j) (h2 : j < 2147483648) : zrun zTb d 48 [.ref 10, .int (I j)] f m = some (.inl (some (.int (I (fr CH j : Nat)))), f, m) := by
  obtain ⟨⟨W, U, cn, x10, -⟩, x145, x146, -⟩ := h
  have := s_X5_from (d := d) (f := f) (m := m) (j := j) hd x10 x146 h1 h2
  rw [this]
  unfold fr
  split <;> rfl
theorem s_tab (hd : 2 ≤ d) (h : SO f P np s.1 s.2.1 s.2.2.1) (hp : p < s.1) : zrun zTb d 59 [.ref 11, .int (I p)] f m = some (.inl (some (.long (J (tbn P (s.2.2.1 p) np : Nat)))), f, m) := by
  obtain ⟨KS, FS, SS, NS, TS, SL, WT, TB, hsto, h18, h139, h140, hrw, hrk, hSL, hn, hE⟩ := h
  have := s_X6_tableOf (d := d) (f := f) (m := m) (j := (p : Int)) hd hsto hn (by omega) (by omega)
  rw [if_pos (by omega), Int.toNat_natCast, (hE p hp).2.2.2.2.2] at this
  exact this
theorem s_tot (hd : 2 ≤ d) (h : SO f P np s.1 s.2.1 s.2.2.1) (hp : p < s.1) : zrun zTb d 58 [.ref 11, .int (I p)] f m = some (.inl (some (.int (I ((s.2.1 p).2.2.2 : Nat)))), f, m) := by
  obtain ⟨KS, FS, SS, NS, TS, SL, WT, TB, hsto, h18, h139, h140, hrw, hrk, hSL, hn, hE⟩ := h
  have := s_X6_totalOf (d := d) (f := f) (m := m) (j := (p : Int)) hd hsto hn (by omega) (by omega)
  rw [if_pos (by omega), Int.toNat_natCast, (hE p hp).2.2.2.1] at this
  exact this
theorem SI_11 (h : SI f P np nX X G C CH s) : ∃ v, f 11 = some (kO 6 v) := by
  obtain ⟨-, -, -, KS, FS, SS, NS, TS, SL, WT, TB, hsto, -⟩ := h
  exact ⟨_, hsto.1⟩
theorem wr_l (hd : 4 ≤ d) (hH : HPP P np nX X) (hpr : 1 ≤ pr ∧ pr ≤ 60) (hk : k = 3 ∨ k = 4) (hc : 1 ≤ c ∧ c ≤ 9) (hCH : CHk CH pr s0) (hEW : EW s0) (hrest : rest = (pr : Int) - c) : ∀ (j p : Nat) (f : zF) (a6 a7 : Value), p + j = fr CH (rest + 1) → fr CH rest ≤ p → SI f P np nX X G C CH (zwr (zoff P np nX X G) s0.2.1 k c pr p s) → mid pr s0 (zwr (zoff P np nX X G) s0.2.1 k c pr p s) → (zwr (zoff P np nX X G) s0.2.1 k c pr p s).2.2.2 < 3 → ∃ f' : zF, zex zTb d zqX5_offerWraps 20 [.ref 10, .int (I k), .int (I pr), .int (I ((zwr (zoff P np nX X G) s0.2.1 k c pr p s).2.2.2 : Nat)), .int (I rest), .int (I p), a6, a7] [] f m = some (.inl (some (.int (I ((zwr (zoff P np nX X G) s0.2.1 k c pr s0.1 s).2.2.2 : Nat)))), f', m) ∧ SI f' P np nX X G C CH (zwr (zoff P np nX X G) s0.2.1 k c pr s0.1 s) ∧ mid pr s0 (zwr (zoff P np nX X G) s0.2.1 k c pr s0.1 s) ∧ fre 11 140 f f' ∧ (zwr (zoff P np nX X G) s0.2.1 k c pr s0.1 s).2.2.2 < 3 := by
  obtain ⟨r1, r2, r3, r4, r5⟩ := wr_rng hc.1 hpr hCH hEW
  rw [← hrest] at r1 r2 r3 r4 r5
  have hid := zoff_idl (P := P) (np := np) (nX := nX) (X := X) (G := G)
  have hn0 := hEW.1
  intro j
  induction j with
  | zero =>
    intro p f a6 a7 hp hlo h hm hs3
    have hp : p = fr CH (rest + 1) := by omega
    have hz : zwr (zoff P np nX X G) s0.2.1 k c pr s0.1 s = zwr (zoff P np nX X G) s0.2.1 k c pr p s := by
      have := zwr_skip (o := zoff P np nX X G) (E := s0.2.1) (k := k) (c := c) (pr := pr) (s := s) (a := p) (s0.1 - p) (fun q h1 h2 => r5 q (by omega) (by omega))
      rw [show p + (s0.1 - p) = s0.1 by omega] at this
      exact this
    rw [hz]
    refine ⟨f, ?_, h, hm, fre_refl, hs3⟩
    have e1 := s_from (d := d) (m := m) (j := rest + 1) (by omega) h (by omega) (by omega)
    obtain ⟨⟨W, U, cn, x10, -⟩, -⟩ := id h
    rw [ze_X5_offerWraps_20]
    by_cases h0 : (zwr (zoff P np nX X G) s0.2.1 k c pr p s).2.2.2 = 0
    · simp (disch := omega) only [ze_X5_offerWraps_0, ze_X5_offerWraps_7, ze_X5_offerWraps_9, ze_X5_offerWraps_18, ze_X5_offerWraps_24, ze_X5_offerWraps_34, ze_X5_offerWraps_37, ze_X5_offerWraps_42, ze_X5_offerWraps_46, ze_X5_offerWraps_51, ze_X5_offerWraps_56, ze_X5_offerWraps_60, ze_X5_offerWraps_65, ze_X5_offerWraps_78, ze_X5_offerWraps_85, zcal_x, zfh_nil, zfh_cons, zset_0, zset_1, zset_s, zcal_v, zcal_n, zcalI_n, zco_O, zcf_O, zcs_O, zisc_O, zr8_A, zr8_S, zri_A, zri_B, zri_C, zrl_L, zrd_D, zrs_R, zgi_A, zgi_S, zgi_B, zgi_C, zgl_L, zgd_D, zisa_A, zisa_S, zisa_L, zisa_B, zisa_R, zln_A, zln_S, zln_L, zln_B, zln_R, zwi_A, zwl_L, zwd_D, zclr_i, zclr_r, zclr_l, zclr_d, zclr_n, zok_i, zok_l, zok_b0, zok_b1, I_add, I_sub, I_mul, I_neg, J_add, J_sub, J_mul, J_toI, I_ofNat, I_cl, I_J, I_ne2, zup_same, zup_up, zup_ne, zc1_eqB, zc1_neB, zret_b, zret_b0, zret_b1, List.getD_cons_zero, List.getD_cons_succ, List.length_cons, List.length_nil, List.set_cons_zero, List.set_cons_succ, Option.toList, List.cons_append, List.nil_append, Int.cast_ofNat_Int, decide_eq_true_eq, Bool.and_eq_true, and_self, true_and, and_true, if_true, if_false, not_true_eq_false, not_false_eq_true, ↓reduceIte, Nat.reduceAdd, Nat.reduceLT, Nat.reduceLeDiff, Nat.reduceEqDiff, Int.reduceAdd, Int.reduceSub, Int.reduceMul, Int.reduceNeg, Int.reduceLT, Int.reduceLE, Int.reduceEq, Int.reduceToNat, Int.toNat_natCast, Nat.lt_add_one, Nat.zero_lt_succ, q1_eq_t, q1_eq_f, q2_eq_t, q2_eq_f, ql_eq_t, ql_eq_f, q1_ne_t, q1_ne_f, q2_ne_t, q2_ne_f, ql_ne_t, ql_ne_f, q1_lt_t, q1_lt_f, q2_lt_t, q2_lt_f, ql_lt_t, ql_lt_f, q1_ge_t, q1_ge_f, q2_ge_t, q2_ge_f, ql_ge_t, ql_ge_f, q1_gt_t, q1_gt_f, q2_gt_t, q2_gt_f, ql_gt_t, ql_gt_f, q1_le_t, q1_le_f, q2_le_t, q2_le_f, ql_le_t, ql_le_f, zib_t, qb_t, qb_f, nk_add, nk_mul, nk_d0, nk_toNat, nk_r1, nk_l1, nk_m1, nk_n1, nk_r2, nk_l2, nk_m2, nk_n2, nk_r3, nk_l3, nk_m3, nk_n3, nk_r4, nk_l4, nk_m4, nk_n4, nk_r6, nk_l6, nk_m6, nk_n6, nk_r7, nk_l7, nk_m7, nk_n7, nk_r8, nk_l8, nk_m8, nk_n8, nk_r12, nk_l12, nk_m12, nk_n12, nk_r31, nk_l31, nk_m31, nk_n31, nk_r32, nk_l32, nk_m32, nk_n32, nk_r59, nk_l59, nk_m59, nk_n59, nk_r60, nk_l60, nk_m60, nk_n60, nk_r96, nk_l96, nk_m96, nk_n96, nk_r97, nk_l97, nk_m97, nk_n97, nk_r120, nk_l120, nk_m120, nk_n120, nk_r240, nk_l240, nk_m240, nk_n240, nk_r255, nk_l255, nk_m255, nk_n255, nk_r256, nk_l256, nk_m256, nk_n256, Nat.add_zero, Nat.zero_add, Nat.mul_one, Nat.one_mul, Nat.mul_zero, Nat.zero_mul, Nat.sub_zero, Nat.reduceSub, Nat.reduceMul, Nat.add_sub_cancel, Bool.false_eq_true, Int.add_zero, Int.zero_add, Int.sub_zero, h0, x10, e1]
    · simp (disch := omega) only [ze_X5_offerWraps_0, ze_X5_offerWraps_7, ze_X5_offerWraps_9, ze_X5_offerWraps_18, ze_X5_offerWraps_24, ze_X5_offerWraps_34, ze_X5_offerWraps_37, ze_X5_offerWraps_42, ze_X5_offerWraps_46, ze_X5_offerWraps_51, ze_X5_offerWraps_56, ze_X5_offerWraps_60, ze_X5_offerWraps_65, ze_X5_offerWraps_78, ze_X5_offerWraps_85, zcal_x, zfh_nil, zfh_cons, zset_0, zset_1, zset_s, zcal_v, zcal_n, zcalI_n, zco_O, zcf_O, zcs_O, zisc_O, zr8_A, zr8_S, zri_A, zri_B, zri_C, zrl_L, zrd_D, zrs_R, zgi_A, zgi_S, zgi_B, zgi_C, zgl_L, zgd_D, zisa_A, zisa_S, zisa_L, zisa_B, zisa_R, zln_A, zln_S, zln_L, zln_B, zln_R, zwi_A, zwl_L, zwd_D, zclr_i, zclr_r, zclr_l, zclr_d, zclr_n, zok_i, zok_l, zok_b0, zok_b1, I_add, I_sub, I_mul, I_neg, J_add, J_sub, J_mul, J_toI, I_ofNat, I_cl, I_J, I_ne2, zup_same, zup_up, zup_ne, zc1_eqB, zc1_neB, zret_b, zret_b0, zret_b1, List.getD_cons_zero, List.getD_cons_succ, List.length_cons, List.length_nil, List.set_cons_zero, List.set_cons_succ, Option.toList, List.cons_append, List.nil_append, Int.cast_ofNat_Int, decide_eq_true_eq, Bool.and_eq_true, and_self, true_and, and_true, if_true, if_false, not_true_eq_false, not_false_eq_true, ↓reduceIte, Nat.reduceAdd, Nat.reduceLT, Nat.reduceLeDiff, Nat.reduceEqDiff, Int.reduceAdd, Int.reduceSub, Int.reduceMul, Int.reduceNeg, Int.reduceLT, Int.reduceLE, Int.reduceEq, Int.reduceToNat, Int.toNat_natCast, Nat.lt_add_one, Nat.zero_lt_succ, q1_eq_t, q1_eq_f, q2_eq_t, q2_eq_f, ql_eq_t, ql_eq_f, q1_ne_t, q1_ne_f, q2_ne_t, q2_ne_f, ql_ne_t, ql_ne_f, q1_lt_t, q1_lt_f, q2_lt_t, q2_lt_f, ql_lt_t, ql_lt_f, q1_ge_t, q1_ge_f, q2_ge_t, q2_ge_f, ql_ge_t, ql_ge_f, q1_gt_t, q1_gt_f, q2_gt_t, q2_gt_f, ql_gt_t, ql_gt_f, q1_le_t, q1_le_f, q2_le_t, q2_le_f, ql_le_t, ql_le_f, zib_t, qb_t, qb_f, nk_add, nk_mul, nk_d0, nk_toNat, nk_r1, nk_l1, nk_m1, nk_n1, nk_r2, nk_l2, nk_m2, nk_n2, nk_r3, nk_l3, nk_m3, nk_n3, nk_r4, nk_l4, nk_m4, nk_n4, nk_r6, nk_l6, nk_m6, nk_n6, nk_r7, nk_l7, nk_m7, nk_n7, nk_r8, nk_l8, nk_m8, nk_n8, nk_r12, nk_l12, nk_m12, nk_n12, nk_r31, nk_l31, nk_m31, nk_n31, nk_r32, nk_l32, nk_m32, nk_n32, nk_r59, nk_l59, nk_m59, nk_n59, nk_r60, nk_l60, nk_m60, nk_n60, nk_r96, nk_l96, nk_m96, nk_n96, nk_r97, nk_l97, nk_m97, nk_n97, nk_r120, nk_l120, nk_m120, nk_n120, nk_r240, nk_l240, nk_m240, nk_n240, nk_r255, nk_l255, nk_m255, nk_n255, nk_r256, nk_l256, nk_m256, nk_n256, Nat.add_zero, Nat.zero_add, Nat.mul_one, Nat.one_mul, Nat.mul_zero, Nat.zero_mul, Nat.sub_zero, Nat.reduceSub, Nat.reduceMul, Nat.add_sub_cancel, Bool.false_eq_true, Int.add_zero, Int.zero_add, Int.sub_zero]
  | succ j ih =>
    intro p f a6 a7 hp hlo h hm hs3
    by_cases h0 : (zwr (zoff P np nX X G) s0.2.1 k c pr p s).2.2.2 = 0
    · have hpc := r4 p hlo (by omega)
      have hpn : p < s0.1 := by omega
      have hs : zwr (zoff P np nX X G) s0.2.1 k c pr (p + 1) s = zoff P np nX X G k p 0 pr (zwr (zoff P np nX X G) s0.2.1 k c pr p s) := by
        rw [zwr_s, if_pos hpc]
      generalize hsp : zwr (zoff P np nX X G) s0.2.1 k c pr p s = sp at *
      have hpn2 : p < sp.1 := Nat.lt_of_lt_of_le hpn hm.2.1.1
      have hTp := (hm.2.1.2 p hpn).2
      obtain ⟨w1, w2, w3, w4, w5, w6, w7, w8, w9, w10⟩ := hEW.2.1 p hpn
      have hok : okoff sp k p 0 pr := by
        refine ⟨by omega, by omega, fun _ => hpn2, by omega, by omega, by omega, ?_, hpr.2, ?_, hm.2.2.1⟩
        · rcases hk with rfl | rfl
          · rw [mkT_3, hTp]; show sz (s0.2.2.1 p) + 1 ≤ pr; omega
          · rw [mkT_4, hTp]; show sz (s0.2.2.1 p) + 1 ≤ pr; omega
        · rcases hk with rfl | rfl
          · rw [mkT_3, hTp]; exact w8
          · rw [mkT_4, hTp]; exact w8
      have e1 := s_from (d := d) (m := m) (j := rest + 1) (by omega) h (by omega) (by omega)
      have e2 := s_tab (d := d) (m := m) (p := p) (by omega) h.2.2.2 hpn2
      have e3 := s_repeatTable (d := d) (m := m) (p := p) (by omega) h.2.2.2 hH.1 hH.2.1 hH.2.2.1 hH.2.2.2.1 hH.2.2.2.2.1 hH.2.2.2.2.2.1 hpn2
      obtain ⟨f1, e4, h2, hfr⟩ := s_offer (d := d) (m := m) hd hH h h0 hok
      have hm2 := mid_off (P := P) (np := np) (nX := nX) (X := X) (G := G) hm hok
      obtain ⟨v11, x11⟩ := SI_11 h
      obtain ⟨⟨W, U, cn, x10, -⟩, -⟩ := id h
      have hneg := tbn_neg (t := sp.2.2.1 p) hH.2.1 hH.2.2.2.2.1 hH.2.2.1
      have hih := ih (p + 1) f1
      rw [hs] at hih
      rcases hk with rfl | rfl
      · obtain ⟨f', i1, i2, i3, i4, i5⟩ := hih (.long (J (tbn P (.neg (sp.2.2.1 p)) np : Nat))) .null (by omega) (by omega) h2 hm2 (zoff_3 hs3)
        refine ⟨f', ?_, i2, i3, fre_trans hfr i4, i5⟩
        rw [mkT_3] at e4
        simp only [Int.cast_ofNat_Int] at e4 i1 ⊢
        rw [ze_X5_offerWraps_20]
        refine Eq.trans ?_ i1
        have h1J : J 1 = J ((1 : Nat) : Int) := rfl
        simp (disch := omega) only [ze_X5_offerWraps_0, ze_X5_offerWraps_7, ze_X5_offerWraps_9, ze_X5_offerWraps_18, ze_X5_offerWraps_24, ze_X5_offerWraps_34, ze_X5_offerWraps_37, ze_X5_offerWraps_42, ze_X5_offerWraps_46, ze_X5_offerWraps_51, ze_X5_offerWraps_56, ze_X5_offerWraps_60, ze_X5_offerWraps_65, ze_X5_offerWraps_78, ze_X5_offerWraps_85, zcal_x, zfh_nil, zfh_cons, zset_0, zset_1, zset_s, zcal_v, zcal_n, zcalI_n, zco_O, zcf_O, zcs_O, zisc_O, zr8_A, zr8_S, zri_A, zri_B, zri_C, zrl_L, zrd_D, zrs_R, zgi_A, zgi_S, zgi_B, zgi_C, zgl_L, zgd_D, zisa_A, zisa_S, zisa_L, zisa_B, zisa_R, zln_A, zln_S, zln_L, zln_B, zln_R, zwi_A, zwl_L, zwd_D, zclr_i, zclr_r, zclr_l, zclr_d, zclr_n, zok_i, zok_l, zok_b0, zok_b1, I_add, I_sub, I_mul, I_neg, J_add, J_sub, J_mul, J_toI, I_ofNat, I_cl, I_J, I_ne2, zup_same, zup_up, zup_ne, zc1_eqB, zc1_neB, zret_b, zret_b0, zret_b1, List.getD_cons_zero, List.getD_cons_succ, List.length_cons, List.length_nil, List.set_cons_zero, List.set_cons_succ, Option.toList, List.cons_append, List.nil_append, Int.cast_ofNat_Int, decide_eq_true_eq, Bool.and_eq_true, and_self, true_and, and_true, if_true, if_false, not_true_eq_false, not_false_eq_true, ↓reduceIte, Nat.reduceAdd, Nat.reduceLT, Nat.reduceLeDiff, Nat.reduceEqDiff, Int.reduceAdd, Int.reduceSub, Int.reduceMul, Int.reduceNeg, Int.reduceLT, Int.reduceLE, Int.reduceEq, Int.reduceToNat, Int.toNat_natCast, Nat.lt_add_one, Nat.zero_lt_succ, q1_eq_t, q1_eq_f, q2_eq_t, q2_eq_f, ql_eq_t, ql_eq_f, q1_ne_t, q1_ne_f, q2_ne_t, q2_ne_f, ql_ne_t, ql_ne_f, q1_lt_t, q1_lt_f, q2_lt_t, q2_lt_f, ql_lt_t, ql_lt_f, q1_ge_t, q1_ge_f, q2_ge_t, q2_ge_f, ql_ge_t, ql_ge_f, q1_gt_t, q1_gt_f, q2_gt_t, q2_gt_f, ql_gt_t, ql_gt_f, q1_le_t, q1_le_f, q2_le_t, q2_le_f, ql_le_t, ql_le_f, zib_t, qb_t, qb_f, nk_add, nk_mul, nk_d0, nk_toNat, nk_r1, nk_l1, nk_m1, nk_n1, nk_r2, nk_l2, nk_m2, nk_n2, nk_r3, nk_l3, nk_m3, nk_n3, nk_r4, nk_l4, nk_m4, nk_n4, nk_r6, nk_l6, nk_m6, nk_n6, nk_r7, nk_l7, nk_m7, nk_n7, nk_r8, nk_l8, nk_m8, nk_n8, nk_r12, nk_l12, nk_m12, nk_n12, nk_r31, nk_l31, nk_m31, nk_n31, nk_r32, nk_l32, nk_m32, nk_n32, nk_r59, nk_l59, nk_m59, nk_n59, nk_r60, nk_l60, nk_m60, nk_n60, nk_r96, nk_l96, nk_m96, nk_n96, nk_r97, nk_l97, nk_m97, nk_n97, nk_r120, nk_l120, nk_m120, nk_n120, nk_r240, nk_l240, nk_m240, nk_n240, nk_r255, nk_l255, nk_m255, nk_n255, nk_r256, nk_l256, nk_m256, nk_n256, Nat.add_zero, Nat.zero_add, Nat.mul_one, Nat.one_mul, Nat.mul_zero, Nat.zero_mul, Nat.sub_zero, Nat.reduceSub, Nat.reduceMul, Nat.add_sub_cancel, Bool.false_eq_true, Int.add_zero, Int.zero_add, Int.sub_zero, h0, x10, x11, e1, e2, e4, h1J, J_or, hneg]
      · obtain ⟨f', i1, i2, i3, i4, i5⟩ := hih (.long (J (tbn P (.mulL 0 (sp.2.2.1 p)) np : Nat))) .null (by omega) (by omega) h2 hm2 (zoff_3 hs3)
        refine ⟨f', ?_, i2, i3, fre_trans hfr i4, i5⟩
        rw [mkT_4] at e4
        simp only [Int.cast_ofNat_Int] at e4 i1 ⊢
        rw [ze_X5_offerWraps_20]
        refine Eq.trans ?_ i1
        simp (disch := omega) only [ze_X5_offerWraps_0, ze_X5_offerWraps_7, ze_X5_offerWraps_9, ze_X5_offerWraps_18, ze_X5_offerWraps_24, ze_X5_offerWraps_34, ze_X5_offerWraps_37, ze_X5_offerWraps_42, ze_X5_offerWraps_46, ze_X5_offerWraps_51, ze_X5_offerWraps_56, ze_X5_offerWraps_60, ze_X5_offerWraps_65, ze_X5_offerWraps_78, ze_X5_offerWraps_85, zcal_x, zfh_nil, zfh_cons, zset_0, zset_1, zset_s, zcal_v, zcal_n, zcalI_n, zco_O, zcf_O, zcs_O, zisc_O, zr8_A, zr8_S, zri_A, zri_B, zri_C, zrl_L, zrd_D, zrs_R, zgi_A, zgi_S, zgi_B, zgi_C, zgl_L, zgd_D, zisa_A, zisa_S, zisa_L, zisa_B, zisa_R, zln_A, zln_S, zln_L, zln_B, zln_R, zwi_A, zwl_L, zwd_D, zclr_i, zclr_r, zclr_l, zclr_d, zclr_n, zok_i, zok_l, zok_b0, zok_b1, I_add, I_sub, I_mul, I_neg, J_add, J_sub, J_mul, J_toI, I_ofNat, I_cl, I_J, I_ne2, zup_same, zup_up, zup_ne, zc1_eqB, zc1_neB, zret_b, zret_b0, zret_b1, List.getD_cons_zero, List.getD_cons_succ, List.length_cons, List.length_nil, List.set_cons_zero, List.set_cons_succ, Option.toList, List.cons_append, List.nil_append, Int.cast_ofNat_Int, decide_eq_true_eq, Bool.and_eq_true, and_self, true_and, and_true, if_true, if_false, not_true_eq_false, not_false_eq_true, ↓reduceIte, Nat.reduceAdd, Nat.reduceLT, Nat.reduceLeDiff, Nat.reduceEqDiff, Int.reduceAdd, Int.reduceSub, Int.reduceMul, Int.reduceNeg, Int.reduceLT, Int.reduceLE, Int.reduceEq, Int.reduceToNat, Int.toNat_natCast, Nat.lt_add_one, Nat.zero_lt_succ, q1_eq_t, q1_eq_f, q2_eq_t, q2_eq_f, ql_eq_t, ql_eq_f, q1_ne_t, q1_ne_f, q2_ne_t, q2_ne_f, ql_ne_t, ql_ne_f, q1_lt_t, q1_lt_f, q2_lt_t, q2_lt_f, ql_lt_t, ql_lt_f, q1_ge_t, q1_ge_f, q2_ge_t, q2_ge_f, ql_ge_t, ql_ge_f, q1_gt_t, q1_gt_f, q2_gt_t, q2_gt_f, ql_gt_t, ql_gt_f, q1_le_t, q1_le_f, q2_le_t, q2_le_f, ql_le_t, ql_le_f, zib_t, qb_t, qb_f, nk_add, nk_mul, nk_d0, nk_toNat, nk_r1, nk_l1, nk_m1, nk_n1, nk_r2, nk_l2, nk_m2, nk_n2, nk_r3, nk_l3, nk_m3, nk_n3, nk_r4, nk_l4, nk_m4, nk_n4, nk_r6, nk_l6, nk_m6, nk_n6, nk_r7, nk_l7, nk_m7, nk_n7, nk_r8, nk_l8, nk_m8, nk_n8, nk_r12, nk_l12, nk_m12, nk_n12, nk_r31, nk_l31, nk_m31, nk_n31, nk_r32, nk_l32, nk_m32, nk_n32, nk_r59, nk_l59, nk_m59, nk_n59, nk_r60, nk_l60, nk_m60, nk_n60, nk_r96, nk_l96, nk_m96, nk_n96, nk_r97, nk_l97, nk_m97, nk_n97, nk_r120, nk_l120, nk_m120, nk_n120, nk_r240, nk_l240, nk_m240, nk_n240, nk_r255, nk_l255, nk_m255, nk_n255, nk_r256, nk_l256, nk_m256, nk_n256, Nat.add_zero, Nat.zero_add, Nat.mul_one, Nat.one_mul, Nat.mul_zero, Nat.zero_mul, Nat.sub_zero, Nat.reduceSub, Nat.reduceMul, Nat.add_sub_cancel, Bool.false_eq_true, Int.add_zero, Int.zero_add, Int.sub_zero, h0, x10, x11, e1, e3, e4]
    · have hz : zwr (zoff P np nX X G) s0.2.1 k c pr s0.1 s = zwr (zoff P np nX X G) s0.2.1 k c pr p s := by
        have := zwr_more hid h0 (s0.1 - p)
        rw [show p + (s0.1 - p) = s0.1 by omega] at this
        exact this
      rw [hz]
      refine ⟨f, ?_, h, hm, fre_refl, hs3⟩
      rw [ze_X5_offerWraps_20]
      simp (disch := omega) only [ze_X5_offerWraps_0, ze_X5_offerWraps_7, ze_X5_offerWraps_9, ze_X5_offerWraps_18, ze_X5_offerWraps_24, ze_X5_offerWraps_34, ze_X5_offerWraps_37, ze_X5_offerWraps_42, ze_X5_offerWraps_46, ze_X5_offerWraps_51, ze_X5_offerWraps_56, ze_X5_offerWraps_60, ze_X5_offerWraps_65, ze_X5_offerWraps_78, ze_X5_offerWraps_85, zcal_x, zfh_nil, zfh_cons, zset_0, zset_1, zset_s, zcal_v, zcal_n, zcalI_n, zco_O, zcf_O, zcs_O, zisc_O, zr8_A, zr8_S, zri_A, zri_B, zri_C, zrl_L, zrd_D, zrs_R, zgi_A, zgi_S, zgi_B, zgi_C, zgl_L, zgd_D, zisa_A, zisa_S, zisa_L, zisa_B, zisa_R, zln_A, zln_S, zln_L, zln_B, zln_R, zwi_A, zwl_L, zwd_D, zclr_i, zclr_r, zclr_l, zclr_d, zclr_n, zok_i, zok_l, zok_b0, zok_b1, I_add, I_sub, I_mul, I_neg, J_add, J_sub, J_mul, J_toI, I_ofNat, I_cl, I_J, I_ne2, zup_same, zup_up, zup_ne, zc1_eqB, zc1_neB, zret_b, zret_b0, zret_b1, List.getD_cons_zero, List.getD_cons_succ, List.length_cons, List.length_nil, List.set_cons_zero, List.set_cons_succ, Option.toList, List.cons_append, List.nil_append, Int.cast_ofNat_Int, decide_eq_true_eq, Bool.and_eq_true, and_self, true_and, and_true, if_true, if_false, not_true_eq_false, not_false_eq_true, ↓reduceIte, Nat.reduceAdd, Nat.reduceLT, Nat.reduceLeDiff, Nat.reduceEqDiff, Int.reduceAdd, Int.reduceSub, Int.reduceMul, Int.reduceNeg, Int.reduceLT, Int.reduceLE, Int.reduceEq, Int.reduceToNat, Int.toNat_natCast, Nat.lt_add_one, Nat.zero_lt_succ, q1_eq_t, q1_eq_f, q2_eq_t, q2_eq_f, ql_eq_t, ql_eq_f, q1_ne_t, q1_ne_f, q2_ne_t, q2_ne_f, ql_ne_t, ql_ne_f, q1_lt_t, q1_lt_f, q2_lt_t, q2_lt_f, ql_lt_t, ql_lt_f, q1_ge_t, q1_ge_f, q2_ge_t, q2_ge_f, ql_ge_t, ql_ge_f, q1_gt_t, q1_gt_f, q2_gt_t, q2_gt_f, ql_gt_t, ql_gt_f, q1_le_t, q1_le_f, q2_le_t, q2_le_f, ql_le_t, ql_le_f, zib_t, qb_t, qb_f, nk_add, nk_mul, nk_d0, nk_toNat, nk_r1, nk_l1, nk_m1, nk_n1, nk_r2, nk_l2, nk_m2, nk_n2, nk_r3, nk_l3, nk_m3, nk_n3, nk_r4, nk_l4, nk_m4, nk_n4, nk_r6, nk_l6, nk_m6, nk_n6, nk_r7, nk_l7, nk_m7, nk_n7, nk_r8, nk_l8, nk_m8, nk_n8, nk_r12, nk_l12, nk_m12, nk_n12, nk_r31, nk_l31, nk_m31, nk_n31, nk_r32, nk_l32, nk_m32, nk_n32, nk_r59, nk_l59, nk_m59, nk_n59, nk_r60, nk_l60, nk_m60, nk_n60, nk_r96, nk_l96, nk_m96, nk_n96, nk_r97, nk_l97, nk_m97, nk_n97, nk_r120, nk_l120, nk_m120, nk_n120, nk_r240, nk_l240, nk_m240, nk_n240, nk_r255, nk_l255, nk_m255, nk_n255, nk_r256, nk_l256, nk_m256, nk_n256, Nat.add_zero, Nat.zero_add, Nat.mul_one, Nat.one_mul, Nat.mul_zero, Nat.zero_mul, Nat.sub_zero, Nat.reduceSub, Nat.reduceMul, Nat.add_sub_cancel, Bool.false_eq_true, Int.add_zero, Int.zero_add, Int.sub_zero]
theorem s_offerWraps (hd : 5 ≤ d) (hH : HPP P np nX X) (hpr : 1 ≤ pr ∧ pr ≤ 60) (hk : k = 3 ∨ k = 4) (hC : ∀ k, k < 7 → 1 ≤ C k ∧ C k ≤ 9) (hCH : CHk CH pr s0) (hEW : EW s0) (h : SI f P np nX X G C CH s) (hm : mid pr s0 s) (hs0 : s.2.2.2 = 0) : ∃ f' : zF, zrun zTb d 46 [.ref 10, .int (I k), .int (I pr)] f m = some (.inl (some (.int (I ((zwr (zoff P np nX X G) s0.2.1 k (C k) pr s0.1 s).2.2.2 : Nat)))), f', m) ∧ SI f' P np nX X G C CH (zwr (zoff P np nX X G) s0.2.1 k (C k) pr s0.1 s) ∧ mid pr s0 (zwr (zoff P np nX X G) s0.2.1 k (C k) pr s0.1 s) ∧ fre 11 140 f f' ∧ (zwr (zoff P np nX X G) s0.2.1 k (C k) pr s0.1 s).2.2.2 < 3 := by
  obtain ⟨d, rfl⟩ : ∃ e, d = e + 1 := ⟨d - 1, by omega⟩
  have hc := hC k (by omega)
  obtain ⟨r1, r2, r3, r4, r5⟩ := wr_rng hc.1 hpr hCH hEW
  have hz : zwr (zoff P np nX X G) s0.2.1 k (C k) pr (fr CH ((pr : Int) - C k)) s = s := by
    have := zwr_skip (o := zoff P np nX X G) (E := s0.2.1) (k := k) (c := C k) (pr := pr) (s := s) (a := 0) (fr CH ((pr : Int) - C k)) (fun q h1 h2 => r3 q (by omega))
    rw [Nat.zero_add] at this
    exact this
  obtain ⟨f', i1, i2⟩ := wr_l (d := d) (m := m) (s := s) (rest := (pr : Int) - C k) (by omega) hH hpr hk hc hCH hEW rfl (fr CH ((pr : Int) - C k + 1) - fr CH ((pr : Int) - C k)) (fr CH ((pr : Int) - C k)) f .null .null (by omega) (Nat.le_refl _) (by rw [hz]; exact h) (by rw [hz]; exact hm) (by rw [hz]; omega)
  rw [hz, hs0] at i1
  simp only [Int.cast_ofNat_Int] at i1
  refine ⟨f', ?_, i2⟩
  have e1 := s_from (d := d) (m := m) (j := (pr : Int) - C k) (by omega) h (by omega) (by omega)
  have x145 := h.2.1
  obtain ⟨⟨W, U, cn, x10, -⟩, -⟩ := h
  rw [zs_X5_offerWraps]
  refine Eq.trans ?_ i1
  simp (disch := omega) only [ze_X5_offerWraps_0, ze_X5_offerWraps_7, ze_X5_offerWraps_9, ze_X5_offerWraps_18, ze_X5_offerWraps_24, ze_X5_offerWraps_34, ze_X5_offerWraps_37, ze_X5_offerWraps_42, ze_X5_offerWraps_46, ze_X5_offerWraps_51, ze_X5_offerWraps_56, ze_X5_offerWraps_60, ze_X5_offerWraps_65, ze_X5_offerWraps_78, ze_X5_offerWraps_85, zcal_x, zfh_nil, zfh_cons, zset_0, zset_1, zset_s, zcal_v, zcal_n, zcalI_n, zco_O, zcf_O, zcs_O, zisc_O, zr8_A, zr8_S, zri_A, zri_B, zri_C, zrl_L, zrd_D, zrs_R, zgi_A, zgi_S, zgi_B, zgi_C, zgl_L, zgd_D, zisa_A, zisa_S, zisa_L, zisa_B, zisa_R, zln_A, zln_S, zln_L, zln_B, zln_R, zwi_A, zwl_L, zwd_D, zclr_i, zclr_r, zclr_l, zclr_d, zclr_n, zok_i, zok_l, zok_b0, zok_b1, I_add, I_sub, I_mul, I_neg, J_add, J_sub, J_mul, J_toI, I_ofNat, I_cl, I_J, I_ne2, zup_same, zup_up, zup_ne, zc1_eqB, zc1_neB, zret_b, zret_b0, zret_b1, List.getD_cons_zero, List.getD_cons_succ, List.length_cons, List.length_nil, List.set_cons_zero, List.set_cons_succ, Option.toList, List.cons_append, List.nil_append, Int.cast_ofNat_Int, decide_eq_true_eq, Bool.and_eq_true, and_self, true_and, and_true, if_true, if_false, not_true_eq_false, not_false_eq_true, ↓reduceIte, Nat.reduceAdd, Nat.reduceLT, Nat.reduceLeDiff, Nat.reduceEqDiff, Int.reduceAdd, Int.reduceSub, Int.reduceMul, Int.reduceNeg, Int.reduceLT, Int.reduceLE, Int.reduceEq, Int.reduceToNat, Int.toNat_natCast, Nat.lt_add_one, Nat.zero_lt_succ, q1_eq_t, q1_eq_f, q2_eq_t, q2_eq_f, ql_eq_t, ql_eq_f, q1_ne_t, q1_ne_f, q2_ne_t, q2_ne_f, ql_ne_t, ql_ne_f, q1_lt_t, q1_lt_f, q2_lt_t, q2_lt_f, ql_lt_t, ql_lt_f, q1_ge_t, q1_ge_f, q2_ge_t, q2_ge_f, ql_ge_t, ql_ge_f, q1_gt_t, q1_gt_f, q2_gt_t, q2_gt_f, ql_gt_t, ql_gt_f, q1_le_t, q1_le_f, q2_le_t, q2_le_f, ql_le_t, ql_le_f, zib_t, qb_t, qb_f, nk_add, nk_mul, nk_d0, nk_toNat, nk_r1, nk_l1, nk_m1, nk_n1, nk_r2, nk_l2, nk_m2, nk_n2, nk_r3, nk_l3, nk_m3, nk_n3, nk_r4, nk_l4, nk_m4, nk_n4, nk_r6, nk_l6, nk_m6, nk_n6, nk_r7, nk_l7, nk_m7, nk_n7, nk_r8, nk_l8, nk_m8, nk_n8, nk_r12, nk_l12, nk_m12, nk_n12, nk_r31, nk_l31, nk_m31, nk_n31, nk_r32, nk_l32, nk_m32, nk_n32, nk_r59, nk_l59, nk_m59, nk_n59, nk_r60, nk_l60, nk_m60, nk_n60, nk_r96, nk_l96, nk_m96, nk_n96, nk_r97, nk_l97, nk_m97, nk_n97, nk_r120, nk_l120, nk_m120, nk_n120, nk_r240, nk_l240, nk_m240, nk_n240, nk_r255, nk_l255, nk_m255, nk_n255, nk_r256, nk_l256, nk_m256, nk_n256, Nat.add_zero, Nat.zero_add, Nat.mul_one, Nat.one_mul, Nat.mul_zero, Nat.zero_mul, Nat.sub_zero, Nat.reduceSub, Nat.reduceMul, Nat.add_sub_cancel, Bool.false_eq_true, Int.add_zero, Int.zero_add, Int.sub_zero, x10, x145, e1]
end
