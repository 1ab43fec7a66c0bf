/-! SPECS: words by their places; examples' small methods -/
theorem I_third {s : Nat} (h : s < 2147483648) : I s / I 3 = I ((s / 3 : Nat) : Int) := by
  have e : ((s : Int)).tdiv 3 = ((s / 3 : Nat) : Int) := by
    rw [Int.tdiv_eq_ediv_of_nonneg (by omega)]; omega
  rw [I_div (b := 3) ⟨by omega, by omega⟩ ⟨by omega, by omega⟩ (by rw [e]; exact ⟨by omega, by omega⟩), e]
theorem I_ne3 : ¬ (I 3 = 0) := by decide
def pf : Nat → Nat
  | 0 => 0
  | k + 1 => pf k * 3 + 1
/-- the packed word at a place, of that many letters at most -/
def apw : Nat → Nat → Nat
  | 0, _ => 0
  | k + 1, r => if r = 0 then 0 else 97 + (r - 1) % 3 + 256 * apw k ((r - 1) / 3)
section
variable {d : Nat} {f : zF} {m : zM}
theorem l_X8_placeOfFirst {l : Nat} (hl : l ≤ 7) : ∀ j k : Nat, k + j = l → zex zTb d zqX8_placeOfFirst 4 [.int (I l), .int (I (pf k : Nat)), .int (I k)] [] f m = some (.inl (some (.int (I (pf l : Nat)))), f, m) := by
  intro j
  induction j with
  | zero =>
    intro k hk
    obtain rfl : k = l := by omega
    have b1 : ((k : Int) ≤ k) = True := by apply propext; exact ⟨fun _ => trivial, fun _ => by omega⟩
    rw [ze_X8_placeOfFirst_4]
    simp (disch := omega) only [ze_X8_placeOfFirst_0, ze_X8_placeOfFirst_9, ze_X8_placeOfFirst_15, ze_X8_placeOfFirst_27, zcal_v, zcal_n, zcalI_n, zco_O, zcf_O, zcs_O, zisc_O, zr8_A, zr8_S, zri_A, zri_B, zri_C, zrl_L, zrd_D, zrs_R, zgi_A, zgi_S, zgi_B, zgi_C, zgl_L, zgd_D, zisa_A, zisa_S, zisa_L, zisa_B, zisa_R, zln_A, zln_S, zln_L, zln_B, zln_R, zwi_A, zwl_L, zwd_D, zclr_i, zclr_r, zclr_l, zclr_d, zclr_n, zok_i, zok_l, zok_b0, zok_b1, I_add, I_sub, I_mul, I_neg, J_add, J_sub, J_mul, J_toI, I_ofNat, zib_I, I_cl, I_J, I_ne2, zup_same, zup_up, zup_ne, zc1_eqB, zc1_neB, zc1_eq, zc1_ne, zc1_lt, zc1_ge, zc1_gt, zc1_le, zc2_eq, zc2_ne, zc2_lt, zc2_ge, zc2_gt, zc2_le, lc_eq, lc_ne, lc_ge, lc_le, lc_gt, lc_lt, zret_b, zret_b0, zret_b1, List.getD_cons_zero, List.getD_cons_succ, List.length_cons, List.length_nil, List.set_cons_zero, List.set_cons_succ, Option.toList, List.cons_append, List.nil_append, Int.cast_ofNat_Int, decide_eq_true_eq, Bool.and_eq_true, and_self, true_and, and_true, if_true, if_false, not_true_eq_false, not_false_eq_true, reduceIte, Nat.reduceAdd, Nat.reduceLT, Nat.reduceLeDiff, Nat.reduceEqDiff, Int.reduceAdd, Int.reduceSub, Int.reduceMul, Int.reduceNeg, Int.reduceLT, Int.reduceLE, Int.reduceEq, Int.reduceToNat, Int.toNat_natCast, Nat.lt_add_one, Nat.zero_lt_succ, b1]
  | succ j ih =>
    intro k hk
    have b1 : ((l : Int) ≤ k) = False := by apply propext; exact ⟨fun z => by omega, False.elim⟩
    have b2 : (6 < (k : Int)) = False := by apply propext; exact ⟨fun z => by omega, False.elim⟩
    rw [ze_X8_placeOfFirst_4]
    simp (disch := omega) only [ze_X8_placeOfFirst_0, ze_X8_placeOfFirst_9, ze_X8_placeOfFirst_15, ze_X8_placeOfFirst_27, zcal_v, zcal_n, zcalI_n, zco_O, zcf_O, zcs_O, zisc_O, zr8_A, zr8_S, zri_A, zri_B, zri_C, zrl_L, zrd_D, zrs_R, zgi_A, zgi_S, zgi_B, zgi_C, zgl_L, zgd_D, zisa_A, zisa_S, zisa_L, zisa_B, zisa_R, zln_A, zln_S, zln_L, zln_B, zln_R, zwi_A, zwl_L, zwd_D, zclr_i, zclr_r, zclr_l, zclr_d, zclr_n, zok_i, zok_l, zok_b0, zok_b1, I_add, I_sub, I_mul, I_neg, J_add, J_sub, J_mul, J_toI, I_ofNat, zib_I, I_cl, I_J, I_ne2, zup_same, zup_up, zup_ne, zc1_eqB, zc1_neB, zc1_eq, zc1_ne, zc1_lt, zc1_ge, zc1_gt, zc1_le, zc2_eq, zc2_ne, zc2_lt, zc2_ge, zc2_gt, zc2_le, lc_eq, lc_ne, lc_ge, lc_le, lc_gt, lc_lt, zret_b, zret_b0, zret_b1, List.getD_cons_zero, List.getD_cons_succ, List.length_cons, List.length_nil, List.set_cons_zero, List.set_cons_succ, Option.toList, List.cons_append, List.nil_append, Int.cast_ofNat_Int, decide_eq_true_eq, Bool.and_eq_true, and_self, true_and, and_true, if_true, if_false, not_true_eq_false, not_false_eq_true, reduceIte, Nat.reduceAdd, Nat.reduceLT, Nat.reduceLeDiff, Nat.reduceEqDiff, Int.reduceAdd, Int.reduceSub, Int.reduceMul, Int.reduceNeg, Int.reduceLT, Int.reduceLE, Int.reduceEq, Int.reduceToNat, Int.toNat_natCast, Nat.lt_add_one, Nat.zero_lt_succ, b1, b2]
    exact ih (k + 1) (by omega)
theorem s_X8_placeOfFirst {l : Nat} (hd : 1 ≤ d) (hl : l ≤ 7) : zrun zTb d 75 [.int (I l)] f m = some (.inl (some (.int (I (pf l : Nat)))), f, m) := by
  obtain ⟨d, rfl⟩ : ∃ e, d = e + 1 := ⟨d - 1, by omega⟩
  rw [zs_X8_placeOfFirst]
  simp only [ze_X8_placeOfFirst_0, ze_X8_placeOfFirst_9, ze_X8_placeOfFirst_15, ze_X8_placeOfFirst_27, zclr_i]
  exact l_X8_placeOfFirst hl l 0 (by omega)
theorem l_X8_atPlace {p : Nat} : ∀ j i : Nat, i + j = 6 → ∀ (w r : Nat) (a5 a6 : Value), w < 2 ^ (8 * i) → r < 2147483648 → zex zTb d zqX8_atPlace 7 [.int (I p), .long (J w), .null, .int (I r), .int (I (8 * (i : Int))), a5, a6] [] f m = some (.inl (some (.long (J (w + 2 ^ (8 * i) * apw j r : Nat)))), f, m) := by
  intro j
  induction j with
  | zero =>
    intro i hi w r a5 a6 hw hr
    obtain rfl : i = 6 := by omega
    rw [ze_X8_atPlace_7]
    simp (disch := omega) only [ze_X8_atPlace_0, ze_X8_atPlace_14, ze_X8_atPlace_18, ze_X8_atPlace_25, ze_X8_atPlace_42, ze_X8_atPlace_49, zcal_v, zcal_n, zcalI_n, zco_O, zcf_O, zcs_O, zisc_O, zr8_A, zr8_S, zri_A, zri_B, zri_C, zrl_L, zrd_D, zrs_R, zgi_A, zgi_S, zgi_B, zgi_C, zgl_L, zgd_D, zisa_A, zisa_S, zisa_L, zisa_B, zisa_R, zln_A, zln_S, zln_L, zln_B, zln_R, zwi_A, zwl_L, zwd_D, zclr_i, zclr_r, zclr_l, zclr_d, zclr_n, zok_i, zok_l, zok_b0, zok_b1, I_add, I_sub, I_mul, I_neg, J_add, J_sub, J_mul, J_toI, I_ofNat, zib_I, I_cl, I_J, I_ne2, zup_same, zup_up, zup_ne, zc1_eqB, zc1_neB, zc1_eq, zc1_ne, zc1_lt, zc1_ge, zc1_gt, zc1_le, zc2_eq, zc2_ne, zc2_lt, zc2_ge, zc2_gt, zc2_le, lc_eq, lc_ne, lc_ge, lc_le, lc_gt, lc_lt, zret_b, zret_b0, zret_b1, List.getD_cons_zero, List.getD_cons_succ, List.length_cons, List.length_nil, List.set_cons_zero, List.set_cons_succ, Option.toList, List.cons_append, List.nil_append, Int.cast_ofNat_Int, decide_eq_true_eq, Bool.and_eq_true, and_self, true_and, and_true, if_true, if_false, not_true_eq_false, not_false_eq_true, reduceIte, Nat.reduceAdd, Nat.reduceLT, Nat.reduceLeDiff, Nat.reduceEqDiff, Int.reduceAdd, Int.reduceSub, Int.reduceMul, Int.reduceNeg, Int.reduceLT, Int.reduceLE, Int.reduceEq, Int.reduceToNat, Int.toNat_natCast, Nat.lt_add_one, Nat.zero_lt_succ]
    unfold apw
    rfl
  | succ j ih =>
    intro i hi w r a5 a6 hw hr
    have b1 : (48 ≤ 8 * (i : Int)) = False := by apply propext; exact ⟨fun z => by omega, False.elim⟩
    rw [ze_X8_atPlace_7]
    by_cases h0 : r = 0
    · subst h0
      simp (disch := omega) only [ze_X8_atPlace_0, ze_X8_atPlace_14, ze_X8_atPlace_18, ze_X8_atPlace_25, ze_X8_atPlace_42, ze_X8_atPlace_49, zcal_v, zcal_n, zcalI_n, zco_O, zcf_O, zcs_O, zisc_O, zr8_A, zr8_S, zri_A, zri_B, zri_C, zrl_L, zrd_D, zrs_R, zgi_A, zgi_S, zgi_B, zgi_C, zgl_L, zgd_D, zisa_A, zisa_S, zisa_L, zisa_B, zisa_R, zln_A, zln_S, zln_L, zln_B, zln_R, zwi_A, zwl_L, zwd_D, zclr_i, zclr_r, zclr_l, zclr_d, zclr_n, zok_i, zok_l, zok_b0, zok_b1, I_add, I_sub, I_mul, I_neg, J_add, J_sub, J_mul, J_toI, I_ofNat, zib_I, I_cl, I_J, I_ne2, zup_same, zup_up, zup_ne, zc1_eqB, zc1_neB, zc1_eq, zc1_ne, zc1_lt, zc1_ge, zc1_gt, zc1_le, zc2_eq, zc2_ne, zc2_lt, zc2_ge, zc2_gt, zc2_le, lc_eq, lc_ne, lc_ge, lc_le, lc_gt, lc_lt, zret_b, zret_b0, zret_b1, List.getD_cons_zero, List.getD_cons_succ, List.length_cons, List.length_nil, List.set_cons_zero, List.set_cons_succ, Option.toList, List.cons_append, List.nil_append, Int.cast_ofNat_Int, decide_eq_true_eq, Bool.and_eq_true, and_self, true_and, and_true, if_true, if_false, not_true_eq_false, not_false_eq_true, reduceIte, Nat.reduceAdd, Nat.reduceLT, Nat.reduceLeDiff, Nat.reduceEqDiff, Int.reduceAdd, Int.reduceSub, Int.reduceMul, Int.reduceNeg, Int.reduceLT, Int.reduceLE, Int.reduceEq, Int.reduceToNat, Int.toNat_natCast, Nat.lt_add_one, Nat.zero_lt_succ, b1, Int.natCast_zero]
      unfold apw
      rfl
    · have b2 : ((r : Int) ≤ 0) = False := by apply propext; exact ⟨fun z => by omega, False.elim⟩
      have b3 : (r : Int) - 1 = ((r - 1 : Nat) : Int) := by omega
      have b4 : ((r - 1 : Nat) : Int) - (((r - 1) / 3 : Nat) : Int) * 3 = (((r - 1) % 3 : Nat) : Int) := by omega
      have b5 : (97 : Int) + (((r - 1) % 3 : Nat) : Int) = ((97 + (r - 1) % 3 : Nat) : Int) := by omega
      have b6 : (8 * (i : Int)).toNat = 8 * i := by omega
      have b7 : w ||| (97 + (r - 1) % 3) * 2 ^ (8 * i) = w + 2 ^ (8 * i) * (97 + (r - 1) % 3) := by
        rw [Nat.or_comm, Nat.mul_comm, ← Nat.two_pow_add_eq_or_of_lt hw, Nat.add_comm]
      have b8 : 8 * (i : Int) + 8 = 8 * ((i + 1 : Nat) : Int) := by omega
      simp (disch := omega) only [ze_X8_atPlace_0, ze_X8_atPlace_14, ze_X8_atPlace_18, ze_X8_atPlace_25, ze_X8_atPlace_42, ze_X8_atPlace_49, zcal_v, zcal_n, zcalI_n, zco_O, zcf_O, zcs_O, zisc_O, zr8_A, zr8_S, zri_A, zri_B, zri_C, zrl_L, zrd_D, zrs_R, zgi_A, zgi_S, zgi_B, zgi_C, zgl_L, zgd_D, zisa_A, zisa_S, zisa_L, zisa_B, zisa_R, zln_A, zln_S, zln_L, zln_B, zln_R, zwi_A, zwl_L, zwd_D, zclr_i, zclr_r, zclr_l, zclr_d, zclr_n, zok_i, zok_l, zok_b0, zok_b1, I_add, I_sub, I_mul, I_neg, J_add, J_sub, J_mul, J_toI, I_ofNat, zib_I, I_cl, I_J, I_ne2, zup_same, zup_up, zup_ne, zc1_eqB, zc1_neB, zc1_eq, zc1_ne, zc1_lt, zc1_ge, zc1_gt, zc1_le, zc2_eq, zc2_ne, zc2_lt, zc2_ge, zc2_gt, zc2_le, lc_eq, lc_ne, lc_ge, lc_le, lc_gt, lc_lt, zret_b, zret_b0, zret_b1, List.getD_cons_zero, List.getD_cons_succ, List.length_cons, List.length_nil, List.set_cons_zero, List.set_cons_succ, Option.toList, List.cons_append, List.nil_append, Int.cast_ofNat_Int, decide_eq_true_eq, Bool.and_eq_true, and_self, true_and, and_true, if_true, if_false, not_true_eq_false, not_false_eq_true, reduceIte, Nat.reduceAdd, Nat.reduceLT, Nat.reduceLeDiff, Nat.reduceEqDiff, Int.reduceAdd, Int.reduceSub, Int.reduceMul, Int.reduceNeg, Int.reduceLT, Int.reduceLE, Int.reduceEq, Int.reduceToNat, Int.toNat_natCast, Nat.lt_add_one, Nat.zero_lt_succ, b1, b2, b3, I_third, I_ne3, b4, b5, J_shlI, J_or, b6, b7, b8]
      have hpow : 2 ^ (8 * (i + 1)) = 2 ^ (8 * i) * 256 := by rw [Nat.mul_add, Nat.pow_add]
      have hl : 97 + (r - 1) % 3 < 256 := by omega
      have hw2 : w + 2 ^ (8 * i) * (97 + (r - 1) % 3) < 2 ^ (8 * (i + 1)) := by
        rw [hpow]
        have : 2 ^ (8 * i) * (97 + (r - 1) % 3) ≤ 2 ^ (8 * i) * 255 := Nat.mul_le_mul_left _ (by omega)
        have e : 2 ^ (8 * i) * 256 = 2 ^ (8 * i) * 255 + 2 ^ (8 * i) := by omega
        omega
      rw [ih (i + 1) (by omega) _ _ _ _ hw2 (by omega)]
      have e : w + 2 ^ (8 * i) * (97 + (r - 1) % 3) + 2 ^ (8 * (i + 1)) * apw j ((r - 1) / 3) = w + 2 ^ (8 * i) * apw (j + 1) r := by
        rw [hpow, show apw (j + 1) r = 97 + (r - 1) % 3 + 256 * apw j ((r - 1) / 3) from if_neg h0, Nat.add_assoc, Nat.mul_assoc]
        simp only [Nat.mul_add, Nat.add_assoc]
      rw [e]
theorem s_X8_atPlace {p : Nat} (hd : 1 ≤ d) (hp : p < 2147483648) : zrun zTb d 76 [.int (I p)] f m = some (.inl (some (.long (J (apw 6 p : Nat)))), f, m) := by
  obtain ⟨d, rfl⟩ : ∃ e, d = e + 1 := ⟨d - 1, by omega⟩
  rw [zs_X8_atPlace]
  simp only [ze_X8_atPlace_0, ze_X8_atPlace_14, ze_X8_atPlace_18, ze_X8_atPlace_25, ze_X8_atPlace_42, ze_X8_atPlace_49]
  have := l_X8_atPlace (d := d) (f := f) (m := m) (p := p) 6 0 (by omega) 0 p .null .null (by omega) hp
  rw [Nat.zero_add, Nat.mul_zero, Nat.pow_zero, Nat.one_mul] at this
  exact this
/-- the examples: n words W, with their signs G; the pieces at p, the spare ones at q -/
def exs (f : zF) (n : Nat) (W : Nat → Int) (G : Nat → Bool) (p q : Nat) : Prop := f 2 = some (kO 1 [.ref 3, .ref 4, .int (I n), .ref p, .ref q]) ∧ f 3 = some (kL 10 W) ∧ f 4 = some (kB 10 G)
theorem s_X1_has {n p q : Nat} {W : Nat → Int} {G : Nat → Bool} {j : Int} (hd : 1 ≤ d) (he : exs f n W G p q) (hn : n ≤ 10) (h1 : -2147483648 ≤ j) (h2 : j < 2147483648) : zrun zTb d 5 [.ref 2, .int (I j)] f m = some (.inl (some (.int (I (if 0 ≤ j ∧ j < n then 1 else 0)))), f, m) := by
  obtain ⟨d, rfl⟩ : ∃ e, d = e + 1 := ⟨d - 1, by omega⟩
  obtain ⟨s0, s1, s2⟩ := he
  rw [zs_X1_has]
  simp (disch := omega) only [ze_X1_has_0, ze_X1_has_4, ze_X1_has_9, ze_X1_has_12, ze_X1_has_17, ze_X1_has_18, ze_X1_has_21, ze_X1_has_25, zcal_v, zcal_n, zcalI_n, zco_O, zcf_O, zcs_O, zisc_O, zr8_A, zr8_S, zri_A, zri_B, zri_C, zrl_L, zrd_D, zrs_R, zgi_A, zgi_S, zgi_B, zgi_C, zgl_L, zgd_D, zisa_A, zisa_S, zisa_L, zisa_B, zisa_R, zln_A, zln_S, zln_L, zln_B, zln_R, zwi_A, zwl_L, zwd_D, zclr_i, zclr_r, zclr_l, zclr_d, zclr_n, zok_i, zok_l, zok_b0, zok_b1, I_add, I_sub, I_mul, I_neg, J_add, J_sub, J_mul, J_toI, I_ofNat, zib_I, I_cl, I_J, I_ne2, zup_same, zup_up, zup_ne, zc1_eqB, zc1_neB, zc1_eq, zc1_ne, zc1_lt, zc1_ge, zc1_gt, zc1_le, zc2_eq, zc2_ne, zc2_lt, zc2_ge, zc2_gt, zc2_le, lc_eq, lc_ne, lc_ge, lc_le, lc_gt, lc_lt, zret_b, zret_b0, zret_b1, List.getD_cons_zero, List.getD_cons_succ, List.length_cons, List.length_nil, List.set_cons_zero, List.set_cons_succ, Option.toList, List.cons_append, List.nil_append, Int.cast_ofNat_Int, decide_eq_true_eq, Bool.and_eq_true, and_self, true_and, and_true, if_true, if_false, not_true_eq_false, not_false_eq_true, reduceIte, Nat.reduceAdd, Nat.reduceLT, Nat.reduceLeDiff, Nat.reduceEqDiff, Int.reduceAdd, Int.reduceSub, Int.reduceMul, Int.reduceNeg, Int.reduceLT, Int.reduceLE, Int.reduceEq, Int.reduceToNat, Int.toNat_natCast, Nat.lt_add_one, Nat.zero_lt_succ, s0, s1]
  by_cases h3 : j < 0
  · rw [if_pos h3, if_neg (by omega)]
  · rw [if_neg h3]
    by_cases h4 : (n : Int) ≤ j
    · rw [if_pos h4, if_neg (by omega)]
    · rw [if_neg h4, if_neg (by omega), if_pos (by omega)]
theorem l_X1_holds {n p q : Nat} {W : Nat → Int} {G : Nat → Bool} {x : Int} (he : exs f n W G p q) (hn : n ≤ 10) (hW : ∀ i, i < n → 0 ≤ W i ∧ W i < 4611686018427387904) (hx : 0 ≤ x ∧ x < 4611686018427387904) : ∀ j i : Nat, i + j = n → (∀ k, k < i → W k ≠ x) → zex zTb d zqX1_holds 2 [.ref 2, .long (J x), .null, .int (I i)] [] f m = some (.inl (some (.int (I (if (∃ k, k < n ∧ W k = x) then 1 else 0)))), f, m) := by
  obtain ⟨s0, s1, s2⟩ := he
  intro j
  induction j with
  | zero =>
    intro i hi hne
    obtain rfl : i = n := by omega
    have b1 : ((i : Int) ≤ i) = True := by apply propext; exact ⟨fun _ => trivial, fun _ => by omega⟩
    rw [if_neg (show ¬ ∃ k, k < i ∧ W k = x from fun z => hne _ z.choose_spec.1 z.choose_spec.2), ze_X1_holds_2]
    simp (disch := omega) only [ze_X1_holds_0, ze_X1_holds_7, ze_X1_holds_10, ze_X1_holds_14, ze_X1_holds_16, ze_X1_holds_21, ze_X1_holds_23, ze_X1_holds_29, zcal_v, zcal_n, zcalI_n, zco_O, zcf_O, zcs_O, zisc_O, zr8_A, zr8_S, zri_A, zri_B, zri_C, zrl_L, zrd_D, zrs_R, zgi_A, zgi_S, zgi_B, zgi_C, zgl_L, zgd_D, zisa_A, zisa_S, zisa_L, zisa_B, zisa_R, zln_A, zln_S, zln_L, zln_B, zln_R, zwi_A, zwl_L, zwd_D, zclr_i, zclr_r, zclr_l, zclr_d, zclr_n, zok_i, zok_l, zok_b0, zok_b1, I_add, I_sub, I_mul, I_neg, J_add, J_sub, J_mul, J_toI, I_ofNat, zib_I, I_cl, I_J, I_ne2, zup_same, zup_up, zup_ne, zc1_eqB, zc1_neB, zc1_eq, zc1_ne, zc1_lt, zc1_ge, zc1_gt, zc1_le, zc2_eq, zc2_ne, zc2_lt, zc2_ge, zc2_gt, zc2_le, lc_eq, lc_ne, lc_ge, lc_le, lc_gt, lc_lt, zret_b, zret_b0, zret_b1, List.getD_cons_zero, List.getD_cons_succ, List.length_cons, List.length_nil, List.set_cons_zero, List.set_cons_succ, Option.toList, List.cons_append, List.nil_append, Int.cast_ofNat_Int, decide_eq_true_eq, Bool.and_eq_true, and_self, true_and, and_true, if_true, if_false, not_true_eq_false, not_false_eq_true, reduceIte, Nat.reduceAdd, Nat.reduceLT, Nat.reduceLeDiff, Nat.reduceEqDiff, Int.reduceAdd, Int.reduceSub, Int.reduceMul, Int.reduceNeg, Int.reduceLT, Int.reduceLE, Int.reduceEq, Int.reduceToNat, Int.toNat_natCast, Nat.lt_add_one, Nat.zero_lt_succ, s0, b1]
  | succ j ih =>
    intro i hi hne
    have b1 : ((n : Int) ≤ i) = False := by apply propext; exact ⟨fun z => by omega, False.elim⟩
    have b2 : (0 ≤ (i : Int) ∧ (i : Int) < 10) = True := by apply propext; exact ⟨fun _ => trivial, fun _ => ⟨by omega, by omega⟩⟩
    have hw := hW i (by omega)
    rw [ze_X1_holds_2]
    by_cases h : W i = x
    · have b3 : (¬ W i = x) = False := by apply propext; exact ⟨fun z => z h, False.elim⟩
      rw [if_pos (show ∃ k, k < n ∧ W k = x from ⟨i, by omega, h⟩)]
      simp (disch := omega) only [ze_X1_holds_0, ze_X1_holds_7, ze_X1_holds_10, ze_X1_holds_14, ze_X1_holds_16, ze_X1_holds_21, ze_X1_holds_23, ze_X1_holds_29, zcal_v, zcal_n, zcalI_n, zco_O, zcf_O, zcs_O, zisc_O, zr8_A, zr8_S, zri_A, zri_B, zri_C, zrl_L, zrd_D, zrs_R, zgi_A, zgi_S, zgi_B, zgi_C, zgl_L, zgd_D, zisa_A, zisa_S, zisa_L, zisa_B, zisa_R, zln_A, zln_S, zln_L, zln_B, zln_R, zwi_A, zwl_L, zwd_D, zclr_i, zclr_r, zclr_l, zclr_d, zclr_n, zok_i, zok_l, zok_b0, zok_b1, I_add, I_sub, I_mul, I_neg, J_add, J_sub, J_mul, J_toI, I_ofNat, zib_I, I_cl, I_J, I_ne2, zup_same, zup_up, zup_ne, zc1_eqB, zc1_neB, zc1_eq, zc1_ne, zc1_lt, zc1_ge, zc1_gt, zc1_le, zc2_eq, zc2_ne, zc2_lt, zc2_ge, zc2_gt, zc2_le, lc_eq, lc_ne, lc_ge, lc_le, lc_gt, lc_lt, zret_b, zret_b0, zret_b1, List.getD_cons_zero, List.getD_cons_succ, List.length_cons, List.length_nil, List.set_cons_zero, List.set_cons_succ, Option.toList, List.cons_append, List.nil_append, Int.cast_ofNat_Int, decide_eq_true_eq, Bool.and_eq_true, and_self, true_and, and_true, if_true, if_false, not_true_eq_false, not_false_eq_true, reduceIte, Nat.reduceAdd, Nat.reduceLT, Nat.reduceLeDiff, Nat.reduceEqDiff, Int.reduceAdd, Int.reduceSub, Int.reduceMul, Int.reduceNeg, Int.reduceLT, Int.reduceLE, Int.reduceEq, Int.reduceToNat, Int.toNat_natCast, Nat.lt_add_one, Nat.zero_lt_succ, s0, s1, b1, b2, b3]
    · have b3 : (¬ W i = x) = True := by apply propext; exact ⟨fun _ => trivial, fun _ => h⟩
      simp (disch := omega) only [ze_X1_holds_0, ze_X1_holds_7, ze_X1_holds_10, ze_X1_holds_14, ze_X1_holds_16, ze_X1_holds_21, ze_X1_holds_23, ze_X1_holds_29, zcal_v, zcal_n, zcalI_n, zco_O, zcf_O, zcs_O, zisc_O, zr8_A, zr8_S, zri_A, zri_B, zri_C, zrl_L, zrd_D, zrs_R, zgi_A, zgi_S, zgi_B, zgi_C, zgl_L, zgd_D, zisa_A, zisa_S, zisa_L, zisa_B, zisa_R, zln_A, zln_S, zln_L, zln_B, zln_R, zwi_A, zwl_L, zwd_D, zclr_i, zclr_r, zclr_l, zclr_d, zclr_n, zok_i, zok_l, zok_b0, zok_b1, I_add, I_sub, I_mul, I_neg, J_add, J_sub, J_mul, J_toI, I_ofNat, zib_I, I_cl, I_J, I_ne2, zup_same, zup_up, zup_ne, zc1_eqB, zc1_neB, zc1_eq, zc1_ne, zc1_lt, zc1_ge, zc1_gt, zc1_le, zc2_eq, zc2_ne, zc2_lt, zc2_ge, zc2_gt, zc2_le, lc_eq, lc_ne, lc_ge, lc_le, lc_gt, lc_lt, zret_b, zret_b0, zret_b1, List.getD_cons_zero, List.getD_cons_succ, List.length_cons, List.length_nil, List.set_cons_zero, List.set_cons_succ, Option.toList, List.cons_append, List.nil_append, Int.cast_ofNat_Int, decide_eq_true_eq, Bool.and_eq_true, and_self, true_and, and_true, if_true, if_false, not_true_eq_false, not_false_eq_true, reduceIte, Nat.reduceAdd, Nat.reduceLT, Nat.reduceLeDiff, Nat.reduceEqDiff, Int.reduceAdd, Int.reduceSub, Int.reduceMul, Int.reduceNeg, Int.reduceLT, Int.reduceLE, Int.reduceEq, Int.reduceToNat, Int.toNat_natCast, Nat.lt_add_one, Nat.zero_lt_succ, s0, s1, b1, b2, b3]
      exact ih (i + 1) (by omega) (fun k hk => by
        by_cases hki : k = i
        · subst hki; exact h
        · exact hne k (by omega))
theorem s_X1_holds {n p q : Nat} {W : Nat → Int} {G : Nat → Bool} {x : Int} (hd : 1 ≤ d) (he : exs f n W G p q) (hn : n ≤ 10) (hW : ∀ i, i < n → 0 ≤ W i ∧ W i < 4611686018427387904) (hx : 0 ≤ x ∧ x < 4611686018427387904) : zrun zTb d 7 [.ref 2, .long (J x)] f m = some (.inl (some (.int (I (if (∃ k, k < n ∧ W k = x) then 1 else 0)))), f, m) := by
  obtain ⟨d, rfl⟩ : ∃ e, d = e + 1 := ⟨d - 1, by omega⟩
  rw [zs_X1_holds]
  simp only [ze_X1_holds_0, ze_X1_holds_7, ze_X1_holds_10, ze_X1_holds_14, ze_X1_holds_16, ze_X1_holds_21, ze_X1_holds_23, ze_X1_holds_29, zclr_n]
  exact l_X1_holds he hn hW hx n 0 (by omega) (fun k hk => by omega)
end
