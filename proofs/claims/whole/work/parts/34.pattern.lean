/-! SPECS: patterns; the arrays of a pattern at p lie at p+1 (kinds), p+2 (letters), p+3 (sizes) -/
def pat (f : zF) (p n : Nat) (K L Z : Nat → Int) : Prop := f p = some (kO 2 [.ref (p + 1), .ref (p + 2), .ref (p + 3), .int (I n)]) ∧ f (p + 1) = some (kA 60 K) ∧ f (p + 2) = some (kA 60 L) ∧ f (p + 3) = some (kA 60 Z)
def setp (f : zF) (p n : Nat) (K L Z : Nat → Int) : zF := fun j => if j = p then some (kO 2 [.ref (p + 1), .ref (p + 2), .ref (p + 3), .int (I n)]) else if j = p + 1 then some (kA 60 K) else if j = p + 2 then some (kA 60 L) else if j = p + 3 then some (kA 60 Z) else f j
section
variable {d p c n : Nat} {f : zF} {m : zM} {K L Z C : Nat → Int} {n' : Nat} {K' L' Z' : Nat → Int}
theorem pat_setp : pat (setp f p n K L Z) p n K L Z := by
  unfold setp
  refine ⟨if_pos rfl, ?_, ?_, ?_⟩
  · dsimp only; rw [if_neg (by omega), if_pos rfl]
  · dsimp only; rw [if_neg (by omega), if_neg (by omega), if_pos rfl]
  · dsimp only; rw [if_neg (by omega), if_neg (by omega), if_neg (by omega), if_pos rfl]
theorem setp_ne {j : Nat} (h : j < p ∨ p + 3 < j) : setp f p n K L Z j = f j := by
  unfold setp
  rw [if_neg (by omega), if_neg (by omega), if_neg (by omega), if_neg (by omega)]
theorem setp_of {g : zF} (h : pat g p n K L Z) (ho : ∀ j, j < p ∨ p + 3 < j → g j = f j) : g = setp f p n K L Z := by
  funext j
  unfold setp
  by_cases h0 : j = p
  · rw [if_pos h0, h0, h.1]
  · rw [if_neg h0]
    by_cases h1 : j = p + 1
    · rw [if_pos h1, h1, h.2.1]
    · rw [if_neg h1]
      by_cases h2 : j = p + 2
      · rw [if_pos h2, h2, h.2.2.1]
      · rw [if_neg h2]
        by_cases h3 : j = p + 3
        · rw [if_pos h3, h3, h.2.2.2]
        · rw [if_neg h3]; exact ho j (by omega)
theorem setp_self (h : pat f p n K L Z) : setp f p n K L Z = f := (setp_of h (fun _ _ => rfl)).symm
theorem setp_setp : setp (setp f p n K L Z) p n' K' L' Z' = setp f p n' K' L' Z' := setp_of pat_setp (fun j h => by rw [setp_ne h, setp_ne h])
theorem s_X2_has {j : Int} (hd : 1 ≤ d) (hp : pat f p n K L Z) (hn : n ≤ 60) (h1 : -2147483648 ≤ j) (h2 : j < 2147483648) : zrun zTb d 11 [.ref p, .int (I j)] f m = some (.inl (some (.int (I (if 0 ≤ j ∧ j < n then 1 else 0)))), f, m) := by
  obtain ⟨d, rfl⟩ : ∃ e, d = e + 1 := ⟨d - 1, by omega⟩
  obtain ⟨p0, p1, p2, p3⟩ := hp
  rw [zs_X2_has]
  simp (disch := omega) only [ze_X2_has_0, ze_X2_has_4, ze_X2_has_9, ze_X2_has_12, ze_X2_has_17, ze_X2_has_18, ze_X2_has_21, ze_X2_has_25, zcal_v, zcal_n, zcalI_n, zco_O, zcf_O, zcs_O, zisc_O, zr8_A, zr8_S, zri_A, zri_B, zri_C, zrl_L, zrd_D, zrs_R, zgi_A, zgi_S, zgi_B, zgi_C, zgl_L, zgd_D, zisa_A, zisa_S, zisa_L, zisa_B, zisa_R, zln_A, zln_S, zln_L, zln_B, zln_R, zwi_A, zwl_L, zwd_D, zclr_i, zclr_r, zclr_l, zclr_d, zclr_n, zok_i, zok_l, zok_b0, zok_b1, I_add, I_sub, I_mul, I_neg, J_add, J_sub, J_mul, J_toI, I_ofNat, zib_I, I_cl, I_J, I_ne2, zup_same, zup_up, zup_ne, zc1_eqB, zc1_neB, zc1_eq, zc1_ne, zc1_lt, zc1_ge, zc1_gt, zc1_le, zc2_eq, zc2_ne, zc2_lt, zc2_ge, zc2_gt, zc2_le, lc_eq, lc_ne, lc_ge, lc_le, lc_gt, lc_lt, zret_b, zret_b0, zret_b1, List.getD_cons_zero, List.getD_cons_succ, List.length_cons, List.length_nil, List.set_cons_zero, List.set_cons_succ, Option.toList, List.cons_append, List.nil_append, Int.cast_ofNat_Int, decide_eq_true_eq, Bool.and_eq_true, and_self, true_and, and_true, if_true, if_false, not_true_eq_false, not_false_eq_true, reduceIte, Nat.reduceAdd, Nat.reduceLT, Nat.reduceLeDiff, Nat.reduceEqDiff, Int.reduceAdd, Int.reduceSub, Int.reduceMul, Int.reduceNeg, Int.reduceLT, Int.reduceLE, Int.reduceEq, Int.reduceToNat, Int.toNat_natCast, Nat.lt_add_one, Nat.zero_lt_succ, p0, p1]
  by_cases h3 : j < 0
  · rw [if_pos h3, if_neg (by omega)]
  · rw [if_neg h3]
    by_cases h4 : (n : Int) ≤ j
    · rw [if_pos h4, if_neg (by omega)]
    · rw [if_neg h4, if_neg (by omega), if_pos (by omega)]
theorem s_X2_kindOf {j : Int} (hd : 2 ≤ d) (hp : pat f p n K L Z) (hn : n ≤ 60) (h1 : -2147483648 ≤ j) (h2 : j < 2147483648) : zrun zTb d 12 [.ref p, .int (I j)] f m = some (.inl (some (.int (I (if 0 ≤ j ∧ j < n then K j.toNat else 0)))), f, m) := by
  obtain ⟨d, rfl⟩ : ∃ e, d = e + 1 := ⟨d - 1, by omega⟩
  have e1 := s_X2_has (d := d) (m := m) (j := j) (by omega) hp hn h1 h2
  obtain ⟨p0, p1, p2, p3⟩ := hp
  rw [zs_X2_kindOf]
  by_cases h : 0 ≤ j ∧ j < n
  · have h3 : (0 ≤ j ∧ j < 60) = True := by apply propext; exact ⟨fun _ => trivial, fun _ => ⟨by omega, by omega⟩⟩
    rw [if_pos h] at e1 ⊢
    simp (disch := omega) only [ze_X2_kindOf_0, ze_X2_kindOf_5, ze_X2_kindOf_8, ze_X2_kindOf_12, ze_X2_kindOf_14, ze_X2_kindOf_17, zcal_v, zcal_n, zcalI_n, zco_O, zcf_O, zcs_O, zisc_O, zr8_A, zr8_S, zri_A, zri_B, zri_C, zrl_L, zrd_D, zrs_R, zgi_A, zgi_S, zgi_B, zgi_C, zgl_L, zgd_D, zisa_A, zisa_S, zisa_L, zisa_B, zisa_R, zln_A, zln_S, zln_L, zln_B, zln_R, zwi_A, zwl_L, zwd_D, zclr_i, zclr_r, zclr_l, zclr_d, zclr_n, zok_i, zok_l, zok_b0, zok_b1, I_add, I_sub, I_mul, I_neg, J_add, J_sub, J_mul, J_toI, I_ofNat, zib_I, I_cl, I_J, I_ne2, zup_same, zup_up, zup_ne, zc1_eqB, zc1_neB, zc1_eq, zc1_ne, zc1_lt, zc1_ge, zc1_gt, zc1_le, zc2_eq, zc2_ne, zc2_lt, zc2_ge, zc2_gt, zc2_le, lc_eq, lc_ne, lc_ge, lc_le, lc_gt, lc_lt, zret_b, zret_b0, zret_b1, List.getD_cons_zero, List.getD_cons_succ, List.length_cons, List.length_nil, List.set_cons_zero, List.set_cons_succ, Option.toList, List.cons_append, List.nil_append, Int.cast_ofNat_Int, decide_eq_true_eq, Bool.and_eq_true, and_self, true_and, and_true, if_true, if_false, not_true_eq_false, not_false_eq_true, reduceIte, Nat.reduceAdd, Nat.reduceLT, Nat.reduceLeDiff, Nat.reduceEqDiff, Int.reduceAdd, Int.reduceSub, Int.reduceMul, Int.reduceNeg, Int.reduceLT, Int.reduceLE, Int.reduceEq, Int.reduceToNat, Int.toNat_natCast, Nat.lt_add_one, Nat.zero_lt_succ, p0, p1, e1, h3]
  · rw [if_neg h] at e1 ⊢
    simp (disch := omega) only [ze_X2_kindOf_0, ze_X2_kindOf_5, ze_X2_kindOf_8, ze_X2_kindOf_12, ze_X2_kindOf_14, ze_X2_kindOf_17, zcal_v, zcal_n, zcalI_n, zco_O, zcf_O, zcs_O, zisc_O, zr8_A, zr8_S, zri_A, zri_B, zri_C, zrl_L, zrd_D, zrs_R, zgi_A, zgi_S, zgi_B, zgi_C, zgl_L, zgd_D, zisa_A, zisa_S, zisa_L, zisa_B, zisa_R, zln_A, zln_S, zln_L, zln_B, zln_R, zwi_A, zwl_L, zwd_D, zclr_i, zclr_r, zclr_l, zclr_d, zclr_n, zok_i, zok_l, zok_b0, zok_b1, I_add, I_sub, I_mul, I_neg, J_add, J_sub, J_mul, J_toI, I_ofNat, zib_I, I_cl, I_J, I_ne2, zup_same, zup_up, zup_ne, zc1_eqB, zc1_neB, zc1_eq, zc1_ne, zc1_lt, zc1_ge, zc1_gt, zc1_le, zc2_eq, zc2_ne, zc2_lt, zc2_ge, zc2_gt, zc2_le, lc_eq, lc_ne, lc_ge, lc_le, lc_gt, lc_lt, zret_b, zret_b0, zret_b1, List.getD_cons_zero, List.getD_cons_succ, List.length_cons, List.length_nil, List.set_cons_zero, List.set_cons_succ, Option.toList, List.cons_append, List.nil_append, Int.cast_ofNat_Int, decide_eq_true_eq, Bool.and_eq_true, and_self, true_and, and_true, if_true, if_false, not_true_eq_false, not_false_eq_true, reduceIte, Nat.reduceAdd, Nat.reduceLT, Nat.reduceLeDiff, Nat.reduceEqDiff, Int.reduceAdd, Int.reduceSub, Int.reduceMul, Int.reduceNeg, Int.reduceLT, Int.reduceLE, Int.reduceEq, Int.reduceToNat, Int.toNat_natCast, Nat.lt_add_one, Nat.zero_lt_succ, p0, p1, e1]
theorem s_X2_letterOf {j : Int} (hd : 2 ≤ d) (hp : pat f p n K L Z) (hn : n ≤ 60) (h1 : -2147483648 ≤ j) (h2 : j < 2147483648) : zrun zTb d 13 [.ref p, .int (I j)] f m = some (.inl (some (.int (I (if 0 ≤ j ∧ j < n then L j.toNat else 0)))), f, m) := by
  obtain ⟨d, rfl⟩ : ∃ e, d = e + 1 := ⟨d - 1, by omega⟩
  have e1 := s_X2_has (d := d) (m := m) (j := j) (by omega) hp hn h1 h2
  obtain ⟨p0, p1, p2, p3⟩ := hp
  rw [zs_X2_letterOf]
  by_cases h : 0 ≤ j ∧ j < n
  · have h3 : (0 ≤ j ∧ j < 60) = True := by apply propext; exact ⟨fun _ => trivial, fun _ => ⟨by omega, by omega⟩⟩
    rw [if_pos h] at e1 ⊢
    simp (disch := omega) only [ze_X2_letterOf_0, ze_X2_letterOf_5, ze_X2_letterOf_8, ze_X2_letterOf_12, ze_X2_letterOf_14, ze_X2_letterOf_17, zcal_v, zcal_n, zcalI_n, zco_O, zcf_O, zcs_O, zisc_O, zr8_A, zr8_S, zri_A, zri_B, zri_C, zrl_L, zrd_D, zrs_R, zgi_A, zgi_S, zgi_B, zgi_C, zgl_L, zgd_D, zisa_A, zisa_S, zisa_L, zisa_B, zisa_R, zln_A, zln_S, zln_L, zln_B, zln_R, zwi_A, zwl_L, zwd_D, zclr_i, zclr_r, zclr_l, zclr_d, zclr_n, zok_i, zok_l, zok_b0, zok_b1, I_add, I_sub, I_mul, I_neg, J_add, J_sub, J_mul, J_toI, I_ofNat, zib_I, I_cl, I_J, I_ne2, zup_same, zup_up, zup_ne, zc1_eqB, zc1_neB, zc1_eq, zc1_ne, zc1_lt, zc1_ge, zc1_gt, zc1_le, zc2_eq, zc2_ne, zc2_lt, zc2_ge, zc2_gt, zc2_le, lc_eq, lc_ne, lc_ge, lc_le, lc_gt, lc_lt, zret_b, zret_b0, zret_b1, List.getD_cons_zero, List.getD_cons_succ, List.length_cons, List.length_nil, List.set_cons_zero, List.set_cons_succ, Option.toList, List.cons_append, List.nil_append, Int.cast_ofNat_Int, decide_eq_true_eq, Bool.and_eq_true, and_self, true_and, and_true, if_true, if_false, not_true_eq_false, not_false_eq_true, reduceIte, Nat.reduceAdd, Nat.reduceLT, Nat.reduceLeDiff, Nat.reduceEqDiff, Int.reduceAdd, Int.reduceSub, Int.reduceMul, Int.reduceNeg, Int.reduceLT, Int.reduceLE, Int.reduceEq, Int.reduceToNat, Int.toNat_natCast, Nat.lt_add_one, Nat.zero_lt_succ, p0, p2, e1, h3]
  · rw [if_neg h] at e1 ⊢
    simp (disch := omega) only [ze_X2_letterOf_0, ze_X2_letterOf_5, ze_X2_letterOf_8, ze_X2_letterOf_12, ze_X2_letterOf_14, ze_X2_letterOf_17, zcal_v, zcal_n, zcalI_n, zco_O, zcf_O, zcs_O, zisc_O, zr8_A, zr8_S, zri_A, zri_B, zri_C, zrl_L, zrd_D, zrs_R, zgi_A, zgi_S, zgi_B, zgi_C, zgl_L, zgd_D, zisa_A, zisa_S, zisa_L, zisa_B, zisa_R, zln_A, zln_S, zln_L, zln_B, zln_R, zwi_A, zwl_L, zwd_D, zclr_i, zclr_r, zclr_l, zclr_d, zclr_n, zok_i, zok_l, zok_b0, zok_b1, I_add, I_sub, I_mul, I_neg, J_add, J_sub, J_mul, J_toI, I_ofNat, zib_I, I_cl, I_J, I_ne2, zup_same, zup_up, zup_ne, zc1_eqB, zc1_neB, zc1_eq, zc1_ne, zc1_lt, zc1_ge, zc1_gt, zc1_le, zc2_eq, zc2_ne, zc2_lt, zc2_ge, zc2_gt, zc2_le, lc_eq, lc_ne, lc_ge, lc_le, lc_gt, lc_lt, zret_b, zret_b0, zret_b1, List.getD_cons_zero, List.getD_cons_succ, List.length_cons, List.length_nil, List.set_cons_zero, List.set_cons_succ, Option.toList, List.cons_append, List.nil_append, Int.cast_ofNat_Int, decide_eq_true_eq, Bool.and_eq_true, and_self, true_and, and_true, if_true, if_false, not_true_eq_false, not_false_eq_true, reduceIte, Nat.reduceAdd, Nat.reduceLT, Nat.reduceLeDiff, Nat.reduceEqDiff, Int.reduceAdd, Int.reduceSub, Int.reduceMul, Int.reduceNeg, Int.reduceLT, Int.reduceLE, Int.reduceEq, Int.reduceToNat, Int.toNat_natCast, Nat.lt_add_one, Nat.zero_lt_succ, p0, p2, e1]
theorem s_X2_secondOf {j : Int} (hd : 2 ≤ d) (hp : pat f p n K L Z) (hn : n ≤ 60) (h1 : -2147483648 ≤ j) (h2 : j < 2147483647) : zrun zTb d 14 [.ref p, .int (I j)] f m = some (.inl (some (.int (I (if 0 ≤ j + 1 ∧ j + 1 < n then j + 1 + Z (j + 1).toNat else -1)))), f, m) := by
  obtain ⟨d, rfl⟩ : ∃ e, d = e + 1 := ⟨d - 1, by omega⟩
  have e1 := s_X2_has (d := d) (m := m) (j := j + 1) (by omega) hp hn (by omega) (by omega)
  obtain ⟨p0, p1, p2, p3⟩ := hp
  rw [zs_X2_secondOf]
  by_cases h : 0 ≤ j + 1 ∧ j + 1 < n
  · have h3 : (0 ≤ j + 1 ∧ j + 1 < 60) = True := by apply propext; exact ⟨fun _ => trivial, fun _ => ⟨by omega, by omega⟩⟩
    rw [if_pos h] at e1 ⊢
    simp (disch := omega) only [ze_X2_secondOf_0, ze_X2_secondOf_7, ze_X2_secondOf_10, ze_X2_secondOf_17, ze_X2_secondOf_21, ze_X2_secondOf_25, zcal_v, zcal_n, zcalI_n, zco_O, zcf_O, zcs_O, zisc_O, zr8_A, zr8_S, zri_A, zri_B, zri_C, zrl_L, zrd_D, zrs_R, zgi_A, zgi_S, zgi_B, zgi_C, zgl_L, zgd_D, zisa_A, zisa_S, zisa_L, zisa_B, zisa_R, zln_A, zln_S, zln_L, zln_B, zln_R, zwi_A, zwl_L, zwd_D, zclr_i, zclr_r, zclr_l, zclr_d, zclr_n, zok_i, zok_l, zok_b0, zok_b1, I_add, I_sub, I_mul, I_neg, J_add, J_sub, J_mul, J_toI, I_ofNat, zib_I, I_cl, I_J, I_ne2, zup_same, zup_up, zup_ne, zc1_eqB, zc1_neB, zc1_eq, zc1_ne, zc1_lt, zc1_ge, zc1_gt, zc1_le, zc2_eq, zc2_ne, zc2_lt, zc2_ge, zc2_gt, zc2_le, lc_eq, lc_ne, lc_ge, lc_le, lc_gt, lc_lt, zret_b, zret_b0, zret_b1, List.getD_cons_zero, List.getD_cons_succ, List.length_cons, List.length_nil, List.set_cons_zero, List.set_cons_succ, Option.toList, List.cons_append, List.nil_append, Int.cast_ofNat_Int, decide_eq_true_eq, Bool.and_eq_true, and_self, true_and, and_true, if_true, if_false, not_true_eq_false, not_false_eq_true, reduceIte, Nat.reduceAdd, Nat.reduceLT, Nat.reduceLeDiff, Nat.reduceEqDiff, Int.reduceAdd, Int.reduceSub, Int.reduceMul, Int.reduceNeg, Int.reduceLT, Int.reduceLE, Int.reduceEq, Int.reduceToNat, Int.toNat_natCast, Nat.lt_add_one, Nat.zero_lt_succ, p0, p3, e1, h3]
  · rw [if_neg h] at e1 ⊢
    simp (disch := omega) only [ze_X2_secondOf_0, ze_X2_secondOf_7, ze_X2_secondOf_10, ze_X2_secondOf_17, ze_X2_secondOf_21, ze_X2_secondOf_25, zcal_v, zcal_n, zcalI_n, zco_O, zcf_O, zcs_O, zisc_O, zr8_A, zr8_S, zri_A, zri_B, zri_C, zrl_L, zrd_D, zrs_R, zgi_A, zgi_S, zgi_B, zgi_C, zgl_L, zgd_D, zisa_A, zisa_S, zisa_L, zisa_B, zisa_R, zln_A, zln_S, zln_L, zln_B, zln_R, zwi_A, zwl_L, zwd_D, zclr_i, zclr_r, zclr_l, zclr_d, zclr_n, zok_i, zok_l, zok_b0, zok_b1, I_add, I_sub, I_mul, I_neg, J_add, J_sub, J_mul, J_toI, I_ofNat, zib_I, I_cl, I_J, I_ne2, zup_same, zup_up, zup_ne, zc1_eqB, zc1_neB, zc1_eq, zc1_ne, zc1_lt, zc1_ge, zc1_gt, zc1_le, zc2_eq, zc2_ne, zc2_lt, zc2_ge, zc2_gt, zc2_le, lc_eq, lc_ne, lc_ge, lc_le, lc_gt, lc_lt, zret_b, zret_b0, zret_b1, List.getD_cons_zero, List.getD_cons_succ, List.length_cons, List.length_nil, List.set_cons_zero, List.set_cons_succ, Option.toList, List.cons_append, List.nil_append, Int.cast_ofNat_Int, decide_eq_true_eq, Bool.and_eq_true, and_self, true_and, and_true, if_true, if_false, not_true_eq_false, not_false_eq_true, reduceIte, Nat.reduceAdd, Nat.reduceLT, Nat.reduceLeDiff, Nat.reduceEqDiff, Int.reduceAdd, Int.reduceSub, Int.reduceMul, Int.reduceNeg, Int.reduceLT, Int.reduceLE, Int.reduceEq, Int.reduceToNat, Int.toNat_natCast, Nat.lt_add_one, Nat.zero_lt_succ, p0, p3, e1]
/-- what the nodes ahead of i cost -/
def pcost (K C : Nat → Int) : Nat → Int
  | 0 => 0
  | i + 1 => pcost K C i + C (K i).toNat
theorem l_X2_totalCost (hp : pat f p n K L Z) (hn : n ≤ 60) (hc : f c = some (kA 7 C)) (hK : ∀ i, i < n → 0 ≤ K i ∧ K i < 7) : ∀ j i : Nat, i + j = n → ∀ a4, zex zTb d zqX2_totalCost 4 [.ref p, .ref c, .int (I (pcost K C i)), .int (I i), a4] [] f m = some (.inl (some (.int (I (pcost K C n)))), f, m) := by
  obtain ⟨p0, p1, p2, p3⟩ := hp
  intro j
  induction j with
  | zero =>
    intro i hi a4
    obtain rfl : i = n := by omega
    have h1 : ((i : Int) ≤ i) = True := by apply propext; exact ⟨fun _ => trivial, fun _ => by omega⟩
    rw [ze_X2_totalCost_4]
    simp (disch := omega) only [ze_X2_totalCost_0, ze_X2_totalCost_9, ze_X2_totalCost_12, ze_X2_totalCost_16, ze_X2_totalCost_18, ze_X2_totalCost_26, ze_X2_totalCost_30, ze_X2_totalCost_33, ze_X2_totalCost_37, ze_X2_totalCost_40, ze_X2_totalCost_49, zcal_v, zcal_n, zcalI_n, zco_O, zcf_O, zcs_O, zisc_O, zr8_A, zr8_S, zri_A, zri_B, zri_C, zrl_L, zrd_D, zrs_R, zgi_A, zgi_S, zgi_B, zgi_C, zgl_L, zgd_D, zisa_A, zisa_S, zisa_L, zisa_B, zisa_R, zln_A, zln_S, zln_L, zln_B, zln_R, zwi_A, zwl_L, zwd_D, zclr_i, zclr_r, zclr_l, zclr_d, zclr_n, zok_i, zok_l, zok_b0, zok_b1, I_add, I_sub, I_mul, I_neg, J_add, J_sub, J_mul, J_toI, I_ofNat, zib_I, I_cl, I_J, I_ne2, zup_same, zup_up, zup_ne, zc1_eqB, zc1_neB, zc1_eq, zc1_ne, zc1_lt, zc1_ge, zc1_gt, zc1_le, zc2_eq, zc2_ne, zc2_lt, zc2_ge, zc2_gt, zc2_le, lc_eq, lc_ne, lc_ge, lc_le, lc_gt, lc_lt, zret_b, zret_b0, zret_b1, List.getD_cons_zero, List.getD_cons_succ, List.length_cons, List.length_nil, List.set_cons_zero, List.set_cons_succ, Option.toList, List.cons_append, List.nil_append, Int.cast_ofNat_Int, decide_eq_true_eq, Bool.and_eq_true, and_self, true_and, and_true, if_true, if_false, not_true_eq_false, not_false_eq_true, reduceIte, Nat.reduceAdd, Nat.reduceLT, Nat.reduceLeDiff, Nat.reduceEqDiff, Int.reduceAdd, Int.reduceSub, Int.reduceMul, Int.reduceNeg, Int.reduceLT, Int.reduceLE, Int.reduceEq, Int.reduceToNat, Int.toNat_natCast, Nat.lt_add_one, Nat.zero_lt_succ, p0, h1]
  | succ j ih =>
    intro i hi a4
    have hk := hK i (by omega)
    have h1 : ((n : Int) ≤ i) = False := by apply propext; exact ⟨fun z => by omega, False.elim⟩
    have h2 : (0 ≤ (i : Int) ∧ (i : Int) < 60) = True := by apply propext; exact ⟨fun _ => trivial, fun _ => ⟨by omega, by omega⟩⟩
    have h3 : (K i < 0) = False := by apply propext; exact ⟨fun z => by omega, False.elim⟩
    have h4 : (7 ≤ K i) = False := by apply propext; exact ⟨fun z => by omega, False.elim⟩
    have h5 : (0 ≤ K i ∧ K i < 7) = True := by apply propext; exact ⟨fun _ => trivial, fun _ => hk⟩
    rw [ze_X2_totalCost_4]
    simp (disch := omega) only [ze_X2_totalCost_0, ze_X2_totalCost_9, ze_X2_totalCost_12, ze_X2_totalCost_16, ze_X2_totalCost_18, ze_X2_totalCost_26, ze_X2_totalCost_30, ze_X2_totalCost_33, ze_X2_totalCost_37, ze_X2_totalCost_40, ze_X2_totalCost_49, zcal_v, zcal_n, zcalI_n, zco_O, zcf_O, zcs_O, zisc_O, zr8_A, zr8_S, zri_A, zri_B, zri_C, zrl_L, zrd_D, zrs_R, zgi_A, zgi_S, zgi_B, zgi_C, zgl_L, zgd_D, zisa_A, zisa_S, zisa_L, zisa_B, zisa_R, zln_A, zln_S, zln_L, zln_B, zln_R, zwi_A, zwl_L, zwd_D, zclr_i, zclr_r, zclr_l, zclr_d, zclr_n, zok_i, zok_l, zok_b0, zok_b1, I_add, I_sub, I_mul, I_neg, J_add, J_sub, J_mul, J_toI, I_ofNat, zib_I, I_cl, I_J, I_ne2, zup_same, zup_up, zup_ne, zc1_eqB, zc1_neB, zc1_eq, zc1_ne, zc1_lt, zc1_ge, zc1_gt, zc1_le, zc2_eq, zc2_ne, zc2_lt, zc2_ge, zc2_gt, zc2_le, lc_eq, lc_ne, lc_ge, lc_le, lc_gt, lc_lt, zret_b, zret_b0, zret_b1, List.getD_cons_zero, List.getD_cons_succ, List.length_cons, List.length_nil, List.set_cons_zero, List.set_cons_succ, Option.toList, List.cons_append, List.nil_append, Int.cast_ofNat_Int, decide_eq_true_eq, Bool.and_eq_true, and_self, true_and, and_true, if_true, if_false, not_true_eq_false, not_false_eq_true, reduceIte, Nat.reduceAdd, Nat.reduceLT, Nat.reduceLeDiff, Nat.reduceEqDiff, Int.reduceAdd, Int.reduceSub, Int.reduceMul, Int.reduceNeg, Int.reduceLT, Int.reduceLE, Int.reduceEq, Int.reduceToNat, Int.toNat_natCast, Nat.lt_add_one, Nat.zero_lt_succ, p0, p1, hc, h1, h2, h3, h4, h5]
    exact ih (i + 1) (by omega) _
theorem s_X2_totalCost (hd : 1 ≤ d) (hp : pat f p n K L Z) (hn : n ≤ 60) (hc : f c = some (kA 7 C)) (hK : ∀ i, i < n → 0 ≤ K i ∧ K i < 7) : zrun zTb d 15 [.ref p, .ref c] f m = some (.inl (some (.int (I (pcost K C n)))), f, m) := by
  obtain ⟨d, rfl⟩ : ∃ e, d = e + 1 := ⟨d - 1, by omega⟩
  rw [zs_X2_totalCost]
  simp only [ze_X2_totalCost_0, ze_X2_totalCost_9, ze_X2_totalCost_12, ze_X2_totalCost_16, ze_X2_totalCost_18, ze_X2_totalCost_26, ze_X2_totalCost_30, ze_X2_totalCost_33, ze_X2_totalCost_37, ze_X2_totalCost_40, ze_X2_totalCost_49, zclr_r]
  exact l_X2_totalCost hp hn hc hK n 0 (by omega) _
theorem s_X2_becomeNoNodes (hd : 1 ≤ d) (hp : pat f p n K L Z) : zrun zTb d 16 [.ref p] f m = some (.inl none, setp f p 0 K L Z, m) := by
  obtain ⟨d, rfl⟩ : ∃ e, d = e + 1 := ⟨d - 1, by omega⟩
  obtain ⟨p0, p1, p2, p3⟩ := hp
  rw [zs_X2_becomeNoNodes]
  simp (disch := omega) only [ze_X2_becomeNoNodes_0, ze_X2_becomeNoNodes_5, zcal_v, zcal_n, zcalI_n, zco_O, zcf_O, zcs_O, zisc_O, zr8_A, zr8_S, zri_A, zri_B, zri_C, zrl_L, zrd_D, zrs_R, zgi_A, zgi_S, zgi_B, zgi_C, zgl_L, zgd_D, zisa_A, zisa_S, zisa_L, zisa_B, zisa_R, zln_A, zln_S, zln_L, zln_B, zln_R, zwi_A, zwl_L, zwd_D, zclr_i, zclr_r, zclr_l, zclr_d, zclr_n, zok_i, zok_l, zok_b0, zok_b1, I_add, I_sub, I_mul, I_neg, J_add, J_sub, J_mul, J_toI, I_ofNat, zib_I, I_cl, I_J, I_ne2, zup_same, zup_up, zup_ne, zc1_eqB, zc1_neB, zc1_eq, zc1_ne, zc1_lt, zc1_ge, zc1_gt, zc1_le, zc2_eq, zc2_ne, zc2_lt, zc2_ge, zc2_gt, zc2_le, lc_eq, lc_ne, lc_ge, lc_le, lc_gt, lc_lt, zret_b, zret_b0, zret_b1, List.getD_cons_zero, List.getD_cons_succ, List.length_cons, List.length_nil, List.set_cons_zero, List.set_cons_succ, Option.toList, List.cons_append, List.nil_append, Int.cast_ofNat_Int, decide_eq_true_eq, Bool.and_eq_true, and_self, true_and, and_true, if_true, if_false, not_true_eq_false, not_false_eq_true, reduceIte, Nat.reduceAdd, Nat.reduceLT, Nat.reduceLeDiff, Nat.reduceEqDiff, Int.reduceAdd, Int.reduceSub, Int.reduceMul, Int.reduceNeg, Int.reduceLT, Int.reduceLE, Int.reduceEq, Int.reduceToNat, Int.toNat_natCast, Nat.lt_add_one, Nat.zero_lt_succ, p0, zfty_2_3]
  exact congrArg (fun g => (some (Sum.inl none, g, m) : zR)) (setp_of (p := p) (n := 0) (K := K) (L := L) (Z := Z) (f := f) (g := zup f p (kO 2 [.ref (p + 1), .ref (p + 2), .ref (p + 3), .int (I ((0 : Nat) : Int))])) ⟨zup_same, by rw [zup_ne (by omega), p1], by rw [zup_ne (by omega), p2], by rw [zup_ne (by omega), p3]⟩ (fun j hj => zup_ne (by omega)))
theorem s_X2_append {k l z : Int} (hd : 1 ≤ d) (hp : pat f p n K L Z) (hn : n < 60) (hk : 0 ≤ k ∧ k < 7) : zrun zTb d 17 [.ref p, .int (I k), .int (I l), .int (I z)] f m = some (.inl none, setp f p (n + 1) (zst K n k) (zst L n (if k = 2 then l else 0)) (zst Z n z), m) := by
  obtain ⟨d, rfl⟩ : ∃ e, d = e + 1 := ⟨d - 1, by omega⟩
  obtain ⟨p0, p1, p2, p3⟩ := hp
  have h1 : ((n : Int) < 0) = False := by apply propext; exact ⟨fun z => by omega, False.elim⟩
  have h2 : (0 ≤ (n : Int) ∧ (n : Int) < 60) = True := by apply propext; exact ⟨fun _ => trivial, fun _ => ⟨by omega, by omega⟩⟩
  have h3 : (60 ≤ (n : Int)) = False := by apply propext; exact ⟨fun z => by omega, False.elim⟩
  rw [zs_X2_append]
  have key : ∀ (l0 : Int), zup (zup (zup (zup f (p + 1) (kA 60 (zst K n k))) (p + 2) (kA 60 (zst L n l0))) (p + 3) (kA 60 (zst Z n z))) p (kO 2 [.ref (p + 1), .ref (p + 2), .ref (p + 3), .int (I ((n : Int) + 1))]) = setp f p (n + 1) (zst K n k) (zst L n l0) (zst Z n z) := by
    intro l0
    apply setp_of
    · refine ⟨zup_same, ?_, ?_, ?_⟩
      · rw [zup_ne (by omega), zup_ne (by omega), zup_ne (by omega), zup_same]
      · rw [zup_ne (by omega), zup_ne (by omega), zup_same]
      · rw [zup_ne (by omega), zup_same]
    · intro j hj
      rw [zup_ne (by omega), zup_ne (by omega), zup_ne (by omega), zup_ne (by omega)]
  by_cases h : k = 2
  · have h4 : (¬ k = 2) = False := by apply propext; exact ⟨fun z => z h, False.elim⟩
    simp (disch := omega) only [ze_X2_append_0, ze_X2_append_4, ze_X2_append_7, ze_X2_append_11, ze_X2_append_15, ze_X2_append_16, ze_X2_append_19, ze_X2_append_23, ze_X2_append_27, ze_X2_append_29, ze_X2_append_33, ze_X2_append_37, ze_X2_append_42, ze_X2_append_46, ze_X2_append_48, ze_X2_append_52, ze_X2_append_56, ze_X2_append_58, ze_X2_append_63, ze_X2_append_68, zcal_v, zcal_n, zcalI_n, zco_O, zcf_O, zcs_O, zisc_O, zr8_A, zr8_S, zri_A, zri_B, zri_C, zrl_L, zrd_D, zrs_R, zgi_A, zgi_S, zgi_B, zgi_C, zgl_L, zgd_D, zisa_A, zisa_S, zisa_L, zisa_B, zisa_R, zln_A, zln_S, zln_L, zln_B, zln_R, zwi_A, zwl_L, zwd_D, zclr_i, zclr_r, zclr_l, zclr_d, zclr_n, zok_i, zok_l, zok_b0, zok_b1, I_add, I_sub, I_mul, I_neg, J_add, J_sub, J_mul, J_toI, I_ofNat, zib_I, I_cl, I_J, I_ne2, zup_same, zup_up, zup_ne, zc1_eqB, zc1_neB, zc1_eq, zc1_ne, zc1_lt, zc1_ge, zc1_gt, zc1_le, zc2_eq, zc2_ne, zc2_lt, zc2_ge, zc2_gt, zc2_le, lc_eq, lc_ne, lc_ge, lc_le, lc_gt, lc_lt, zret_b, zret_b0, zret_b1, List.getD_cons_zero, List.getD_cons_succ, List.length_cons, List.length_nil, List.set_cons_zero, List.set_cons_succ, Option.toList, List.cons_append, List.nil_append, Int.cast_ofNat_Int, decide_eq_true_eq, Bool.and_eq_true, and_self, true_and, and_true, if_true, if_false, not_true_eq_false, not_false_eq_true, reduceIte, Nat.reduceAdd, Nat.reduceLT, Nat.reduceLeDiff, Nat.reduceEqDiff, Int.reduceAdd, Int.reduceSub, Int.reduceMul, Int.reduceNeg, Int.reduceLT, Int.reduceLE, Int.reduceEq, Int.reduceToNat, Int.toNat_natCast, Nat.lt_add_one, Nat.zero_lt_succ, p0, p1, p2, p3, h1, h2, h3, h4, zfty_2_3]
    rw [key, if_pos h]
  · have h4 : (¬ k = 2) = True := by apply propext; exact ⟨fun _ => trivial, fun _ => h⟩
    simp (disch := omega) only [ze_X2_append_0, ze_X2_append_4, ze_X2_append_7, ze_X2_append_11, ze_X2_append_15, ze_X2_append_16, ze_X2_append_19, ze_X2_append_23, ze_X2_append_27, ze_X2_append_29, ze_X2_append_33, ze_X2_append_37, ze_X2_append_42, ze_X2_append_46, ze_X2_append_48, ze_X2_append_52, ze_X2_append_56, ze_X2_append_58, ze_X2_append_63, ze_X2_append_68, zcal_v, zcal_n, zcalI_n, zco_O, zcf_O, zcs_O, zisc_O, zr8_A, zr8_S, zri_A, zri_B, zri_C, zrl_L, zrd_D, zrs_R, zgi_A, zgi_S, zgi_B, zgi_C, zgl_L, zgd_D, zisa_A, zisa_S, zisa_L, zisa_B, zisa_R, zln_A, zln_S, zln_L, zln_B, zln_R, zwi_A, zwl_L, zwd_D, zclr_i, zclr_r, zclr_l, zclr_d, zclr_n, zok_i, zok_l, zok_b0, zok_b1, I_add, I_sub, I_mul, I_neg, J_add, J_sub, J_mul, J_toI, I_ofNat, zib_I, I_cl, I_J, I_ne2, zup_same, zup_up, zup_ne, zc1_eqB, zc1_neB, zc1_eq, zc1_ne, zc1_lt, zc1_ge, zc1_gt, zc1_le, zc2_eq, zc2_ne, zc2_lt, zc2_ge, zc2_gt, zc2_le, lc_eq, lc_ne, lc_ge, lc_le, lc_gt, lc_lt, zret_b, zret_b0, zret_b1, List.getD_cons_zero, List.getD_cons_succ, List.length_cons, List.length_nil, List.set_cons_zero, List.set_cons_succ, Option.toList, List.cons_append, List.nil_append, Int.cast_ofNat_Int, decide_eq_true_eq, Bool.and_eq_true, and_self, true_and, and_true, if_true, if_false, not_true_eq_false, not_false_eq_true, reduceIte, Nat.reduceAdd, Nat.reduceLT, Nat.reduceLeDiff, Nat.reduceEqDiff, Int.reduceAdd, Int.reduceSub, Int.reduceMul, Int.reduceNeg, Int.reduceLT, Int.reduceLE, Int.reduceEq, Int.reduceToNat, Int.toNat_natCast, Nat.lt_add_one, Nat.zero_lt_succ, p0, p1, p2, p3, h1, h2, h3, h4, zfty_2_3]
    rw [key, if_neg h]
end
