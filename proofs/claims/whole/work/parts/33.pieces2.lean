/-! SPECS: pieces, copied and inserted -/
def pcp (b a : Nat → Int) (i : Nat) : Nat → Int := fun j => if j < i then b j else a j
theorem pcp_zero {b a : Nat → Int} : pcp b a 0 = a := by funext j; exact if_neg (Nat.not_lt_zero j)
theorem pcp_step {b a : Nat → Int} {i : Nat} : zst (pcp b a i) i (b i) = pcp b a (i + 1) := by
  funext j
  unfold zst pcp
  by_cases h : j = i
  · rw [if_pos h, if_pos (by omega), h]
  · rw [if_neg h]
    by_cases h2 : j < i
    · rw [if_pos h2, if_pos (by omega)]
    · rw [if_neg h2, if_neg (by omega)]
section
variable {d p q w w2 : Nat} {f : zF} {m : zM} {a b : Nat → Int} {n k r : Nat} {x : Int}
theorem l_X3_becomeCopy (hd : 0 ≤ d) (hpw : p ≠ w) (hqw : q ≠ w) (hw2w : w2 ≠ w) (hp : f p = some (kO 3 [.ref w, .int (I k)])) (hq : f q = some (kO 3 [.ref w2, .int (I k)])) (hw2 : f w2 = some (kL 60 b)) (hk : k ≤ 60) : ∀ j i : Nat, i + j = k → zex zTb d zqX3_becomeCopy 10 [.ref p, .ref q, .int (I i)] [] (zup f w (kL 60 (pcp b a i))) m = some (.inl none, zup f w (kL 60 (pcp b a k)), m) := by
  intro j
  induction j with
  | zero =>
    intro i hi
    obtain rfl : i = k := by omega
    rw [ze_X3_becomeCopy_10]
    simp (disch := omega) only [ze_X3_becomeCopy_0, ze_X3_becomeCopy_5, ze_X3_becomeCopy_8, ze_X3_becomeCopy_15, ze_X3_becomeCopy_18, ze_X3_becomeCopy_22, ze_X3_becomeCopy_27, ze_X3_becomeCopy_29, ze_X3_becomeCopy_30, ze_X3_becomeCopy_36, zcal_v, zcal_n, zcalI_n, zco_O, zcf_O, zcs_O, zisc_O, zr8_A, zr8_S, zri_A, zri_B, zri_C, zrl_L, zrd_D, zrs_R, zgi_A, zgi_S, zgi_B, zgi_C, zgl_L, zgd_D, zisa_A, zisa_S, zisa_L, zisa_B, zisa_R, zln_A, zln_S, zln_L, zln_B, zln_R, zwi_A, zwl_L, zwd_D, zclr_i, zclr_r, zclr_l, zclr_d, zclr_n, zok_i, zok_l, zok_b0, zok_b1, I_add, I_sub, I_mul, I_neg, J_add, J_sub, J_mul, J_toI, I_ofNat, zib_I, I_cl, I_J, I_ne2, zup_same, zup_up, zc1_eqB, zc1_neB, zc1_eq, zc1_ne, zc1_lt, zc1_ge, zc1_gt, zc1_le, zc2_eq, zc2_ne, zc2_lt, zc2_ge, zc2_gt, zc2_le, lc_eq, lc_ne, lc_ge, lc_le, lc_gt, lc_lt, zret_b, zret_b0, zret_b1, List.getD_cons_zero, List.getD_cons_succ, List.length_cons, List.length_nil, List.set_cons_zero, List.set_cons_succ, Option.toList, List.cons_append, List.nil_append, Int.cast_ofNat_Int, decide_eq_true_eq, Bool.and_eq_true, and_self, true_and, and_true, if_true, if_false, not_true_eq_false, not_false_eq_true, reduceIte, Nat.reduceAdd, Nat.reduceLT, Nat.reduceLeDiff, Nat.reduceEqDiff, Int.reduceAdd, Int.reduceSub, Int.reduceMul, Int.reduceNeg, Int.reduceLT, Int.reduceLE, Int.reduceEq, Int.reduceToNat, Int.toNat_natCast, Nat.lt_add_one, Nat.zero_lt_succ, zup_ne hpw, hp]
    rw [if_pos (by omega)]
  | succ j ih =>
    intro i hi
    have h1 : ((k : Int) ≤ i) = False := by apply propext; exact ⟨fun z => by omega, False.elim⟩
    have h2 : (0 ≤ (i : Int) ∧ (i : Int) < 60) = True := by apply propext; exact ⟨fun _ => trivial, fun _ => ⟨by omega, by omega⟩⟩
    rw [ze_X3_becomeCopy_10]
    simp (disch := omega) only [ze_X3_becomeCopy_0, ze_X3_becomeCopy_5, ze_X3_becomeCopy_8, ze_X3_becomeCopy_15, ze_X3_becomeCopy_18, ze_X3_becomeCopy_22, ze_X3_becomeCopy_27, ze_X3_becomeCopy_29, ze_X3_becomeCopy_30, ze_X3_becomeCopy_36, zcal_v, zcal_n, zcalI_n, zco_O, zcf_O, zcs_O, zisc_O, zr8_A, zr8_S, zri_A, zri_B, zri_C, zrl_L, zrd_D, zrs_R, zgi_A, zgi_S, zgi_B, zgi_C, zgl_L, zgd_D, zisa_A, zisa_S, zisa_L, zisa_B, zisa_R, zln_A, zln_S, zln_L, zln_B, zln_R, zwi_A, zwl_L, zwd_D, zclr_i, zclr_r, zclr_l, zclr_d, zclr_n, zok_i, zok_l, zok_b0, zok_b1, I_add, I_sub, I_mul, I_neg, J_add, J_sub, J_mul, J_toI, I_ofNat, zib_I, I_cl, I_J, I_ne2, zup_same, zup_up, zc1_eqB, zc1_neB, zc1_eq, zc1_ne, zc1_lt, zc1_ge, zc1_gt, zc1_le, zc2_eq, zc2_ne, zc2_lt, zc2_ge, zc2_gt, zc2_le, lc_eq, lc_ne, lc_ge, lc_le, lc_gt, lc_lt, zret_b, zret_b0, zret_b1, List.getD_cons_zero, List.getD_cons_succ, List.length_cons, List.length_nil, List.set_cons_zero, List.set_cons_succ, Option.toList, List.cons_append, List.nil_append, Int.cast_ofNat_Int, decide_eq_true_eq, Bool.and_eq_true, and_self, true_and, and_true, if_true, if_false, not_true_eq_false, not_false_eq_true, reduceIte, Nat.reduceAdd, Nat.reduceLT, Nat.reduceLeDiff, Nat.reduceEqDiff, Int.reduceAdd, Int.reduceSub, Int.reduceMul, Int.reduceNeg, Int.reduceLT, Int.reduceLE, Int.reduceEq, Int.reduceToNat, Int.toNat_natCast, Nat.lt_add_one, Nat.zero_lt_succ, zup_ne hpw, zup_ne hqw, zup_ne hw2w, hp, hq, hw2, h1, h2, pcp_step]
    exact ih (i + 1) (by omega)
theorem s_X3_becomeCopy (hd : 1 ≤ d) (hpw : p ≠ w) (hqw : q ≠ w) (hw2w : w2 ≠ w) (hqp : q ≠ p) (hw2p : w2 ≠ p) (hp : f p = some (kO 3 [.ref w, .int (I n)])) (hw : f w = some (kL 60 a)) (hq : f q = some (kO 3 [.ref w2, .int (I k)])) (hw2 : f w2 = some (kL 60 b)) (hk : k ≤ 60) : zrun zTb d 27 [.ref p, .ref q] f m = some (.inl none, zup (zup f p (kO 3 [.ref w, .int (I k)])) w (kL 60 (pcp b a k)), m) := by
  obtain ⟨d, rfl⟩ : ∃ e, d = e + 1 := ⟨d - 1, by omega⟩
  rw [zs_X3_becomeCopy]
  simp (disch := omega) only [ze_X3_becomeCopy_0, ze_X3_becomeCopy_5, ze_X3_becomeCopy_8, ze_X3_becomeCopy_15, ze_X3_becomeCopy_18, ze_X3_becomeCopy_22, ze_X3_becomeCopy_27, ze_X3_becomeCopy_29, ze_X3_becomeCopy_30, ze_X3_becomeCopy_36, zcal_v, zcal_n, zcalI_n, zco_O, zcf_O, zcs_O, zisc_O, zr8_A, zr8_S, zri_A, zri_B, zri_C, zrl_L, zrd_D, zrs_R, zgi_A, zgi_S, zgi_B, zgi_C, zgl_L, zgd_D, zisa_A, zisa_S, zisa_L, zisa_B, zisa_R, zln_A, zln_S, zln_L, zln_B, zln_R, zwi_A, zwl_L, zwd_D, zclr_i, zclr_r, zclr_l, zclr_d, zclr_n, zok_i, zok_l, zok_b0, zok_b1, I_add, I_sub, I_mul, I_neg, J_add, J_sub, J_mul, J_toI, I_ofNat, zib_I, I_cl, I_J, I_ne2, zup_same, zup_up, zc1_eqB, zc1_neB, zc1_eq, zc1_ne, zc1_lt, zc1_ge, zc1_gt, zc1_le, zc2_eq, zc2_ne, zc2_lt, zc2_ge, zc2_gt, zc2_le, lc_eq, lc_ne, lc_ge, lc_le, lc_gt, lc_lt, zret_b, zret_b0, zret_b1, List.getD_cons_zero, List.getD_cons_succ, List.length_cons, List.length_nil, List.set_cons_zero, List.set_cons_succ, Option.toList, List.cons_append, List.nil_append, Int.cast_ofNat_Int, decide_eq_true_eq, Bool.and_eq_true, and_self, true_and, and_true, if_true, if_false, not_true_eq_false, not_false_eq_true, reduceIte, Nat.reduceAdd, Nat.reduceLT, Nat.reduceLeDiff, Nat.reduceEqDiff, Int.reduceAdd, Int.reduceSub, Int.reduceMul, Int.reduceNeg, Int.reduceLT, Int.reduceLE, Int.reduceEq, Int.reduceToNat, Int.toNat_natCast, Nat.lt_add_one, Nat.zero_lt_succ, hp, hq, zfty_3_1]
  have := l_X3_becomeCopy (d := d) (f := zup f p (kO 3 [.ref w, .int (I k)])) (m := m) (a := a) (by omega) hpw hqw hw2w zup_same (by rw [zup_ne hqp, hq]) (by rw [zup_ne hw2p, hw2]) hk k 0 (by omega)
  rw [pcp_zero, zup_self (p := w) (by rw [zup_ne (Ne.symm hpw), hw])] at this
  exact this
/-- the numbers from r on moved by one, down to place i -/
def psh (a : Nat → Int) (n i : Nat) : Nat → Int := fun j => if i < j ∧ j ≤ n then a (j - 1) else a j
def pin (a : Nat → Int) (n r : Nat) (x : Int) : Nat → Int := fun j => if j = r then x else if r < j ∧ j ≤ n then a (j - 1) else a j
theorem psh_n : psh a n n = a := by funext j; exact if_neg (by omega)
theorem psh_step {i : Nat} (hi : i < n) : zst (psh a n (i + 1)) (i + 1) (psh a n (i + 1) i) = psh a n i := by
  funext j
  unfold zst psh
  by_cases h : j = i + 1
  · subst h
    rw [if_pos rfl, if_neg (by omega), if_pos (by omega)]; rfl
  · rw [if_neg h]
    by_cases h2 : i + 1 < j ∧ j ≤ n
    · rw [if_pos h2, if_pos (by omega)]
    · rw [if_neg h2, if_neg (by omega)]
theorem pin_eq : zst (psh a n r) r x = pin a n r x := by
  funext j
  unfold zst psh pin
  rfl
theorem l_X3_insert (hpw : p ≠ w) (hp : f p = some (kO 3 [.ref w, .int (I n)])) (hn : n < 60) (hr : r ≤ n) : ∀ j i : Nat, i = r + j → i ≤ n → zex zTb d zqX3_insert 47 [.ref p, .long (J x), .null, .int (I r), .int (I i)] [] (zup f w (kL 60 (psh a n i))) m = some (.inl (some (.int (I 1))), zup (zup f w (kL 60 (pin a n r x))) p (kO 3 [.ref w, .int (I ((n + 1 : Nat) : Int))]), m) := by
  intro j
  induction j with
  | zero =>
    intro i hi hin
    obtain rfl : i = r := by omega
    have h2 : (0 ≤ (i : Int) ∧ (i : Int) < 60) = True := by apply propext; exact ⟨fun _ => trivial, fun _ => ⟨by omega, by omega⟩⟩
    have h3 : ((i : Int) ≤ i) = True := by apply propext; exact ⟨fun _ => trivial, fun _ => by omega⟩
    rw [ze_X3_insert_47]
    simp (disch := omega) only [ze_X3_insert_0, ze_X3_insert_5, ze_X3_insert_11, ze_X3_insert_14, ze_X3_insert_18, ze_X3_insert_20, ze_X3_insert_25, ze_X3_insert_27, ze_X3_insert_31, ze_X3_insert_35, ze_X3_insert_36, ze_X3_insert_39, ze_X3_insert_41, ze_X3_insert_45, ze_X3_insert_53, ze_X3_insert_57, ze_X3_insert_63, ze_X3_insert_68, ze_X3_insert_69, ze_X3_insert_75, ze_X3_insert_79, ze_X3_insert_82, ze_X3_insert_87, ze_X3_insert_92, zcal_v, zcal_n, zcalI_n, zco_O, zcf_O, zcs_O, zisc_O, zr8_A, zr8_S, zri_A, zri_B, zri_C, zrl_L, zrd_D, zrs_R, zgi_A, zgi_S, zgi_B, zgi_C, zgl_L, zgd_D, zisa_A, zisa_S, zisa_L, zisa_B, zisa_R, zln_A, zln_S, zln_L, zln_B, zln_R, zwi_A, zwl_L, zwd_D, zclr_i, zclr_r, zclr_l, zclr_d, zclr_n, zok_i, zok_l, zok_b0, zok_b1, I_add, I_sub, I_mul, I_neg, J_add, J_sub, J_mul, J_toI, I_ofNat, zib_I, I_cl, I_J, I_ne2, zup_same, zup_up, zc1_eqB, zc1_neB, zc1_eq, zc1_ne, zc1_lt, zc1_ge, zc1_gt, zc1_le, zc2_eq, zc2_ne, zc2_lt, zc2_ge, zc2_gt, zc2_le, lc_eq, lc_ne, lc_ge, lc_le, lc_gt, lc_lt, zret_b, zret_b0, zret_b1, List.getD_cons_zero, List.getD_cons_succ, List.length_cons, List.length_nil, List.set_cons_zero, List.set_cons_succ, Option.toList, List.cons_append, List.nil_append, Int.cast_ofNat_Int, decide_eq_true_eq, Bool.and_eq_true, and_self, true_and, and_true, if_true, if_false, not_true_eq_false, not_false_eq_true, reduceIte, Nat.reduceAdd, Nat.reduceLT, Nat.reduceLeDiff, Nat.reduceEqDiff, Int.reduceAdd, Int.reduceSub, Int.reduceMul, Int.reduceNeg, Int.reduceLT, Int.reduceLE, Int.reduceEq, Int.reduceToNat, Int.toNat_natCast, Nat.lt_add_one, Nat.zero_lt_succ, zup_ne hpw, hp, h2, h3, pin_eq, zfty_3_1]
    rfl
  | succ j ih =>
    intro i hi hin
    obtain ⟨i, rfl⟩ : ∃ e, i = e + 1 := ⟨i - 1, by omega⟩
    have h1 : (((i + 1 : Nat) : Int) ≤ r) = False := by apply propext; exact ⟨fun z => by omega, False.elim⟩
    have h2 : (0 ≤ ((i + 1 : Nat) : Int) ∧ ((i + 1 : Nat) : Int) < 60) = True := by apply propext; exact ⟨fun _ => trivial, fun _ => ⟨by omega, by omega⟩⟩
    have h3 : ((i + 1 : Nat) : Int) - 1 = i := by omega
    have h5 : ((i + 1 : Nat) : Int) + -1 = i := by omega
    have h4 : (0 ≤ (i : Int) ∧ (i : Int) < 60) = True := by apply propext; exact ⟨fun _ => trivial, fun _ => ⟨by omega, by omega⟩⟩
    have h6 : (((i + 1 : Nat) : Int)).toNat = i + 1 := rfl
    rw [ze_X3_insert_47]
    simp (disch := omega) only [ze_X3_insert_0, ze_X3_insert_5, ze_X3_insert_11, ze_X3_insert_14, ze_X3_insert_18, ze_X3_insert_20, ze_X3_insert_25, ze_X3_insert_27, ze_X3_insert_31, ze_X3_insert_35, ze_X3_insert_36, ze_X3_insert_39, ze_X3_insert_41, ze_X3_insert_45, ze_X3_insert_53, ze_X3_insert_57, ze_X3_insert_63, ze_X3_insert_68, ze_X3_insert_69, ze_X3_insert_75, ze_X3_insert_79, ze_X3_insert_82, ze_X3_insert_87, ze_X3_insert_92, zcal_v, zcal_n, zcalI_n, zco_O, zcf_O, zcs_O, zisc_O, zr8_A, zr8_S, zri_A, zri_B, zri_C, zrl_L, zrd_D, zrs_R, zgi_A, zgi_S, zgi_B, zgi_C, zgl_L, zgd_D, zisa_A, zisa_S, zisa_L, zisa_B, zisa_R, zln_A, zln_S, zln_L, zln_B, zln_R, zwi_A, zwl_L, zwd_D, zclr_i, zclr_r, zclr_l, zclr_d, zclr_n, zok_i, zok_l, zok_b0, zok_b1, I_add, I_sub, I_mul, I_neg, J_add, J_sub, J_mul, J_toI, I_ofNat, zib_I, I_cl, I_J, I_ne2, zup_same, zup_up, zc1_eqB, zc1_neB, zc1_eq, zc1_ne, zc1_lt, zc1_ge, zc1_gt, zc1_le, zc2_eq, zc2_ne, zc2_lt, zc2_ge, zc2_gt, zc2_le, lc_eq, lc_ne, lc_ge, lc_le, lc_gt, lc_lt, zret_b, zret_b0, zret_b1, List.getD_cons_zero, List.getD_cons_succ, List.length_cons, List.length_nil, List.set_cons_zero, List.set_cons_succ, Option.toList, List.cons_append, List.nil_append, Int.cast_ofNat_Int, decide_eq_true_eq, Bool.and_eq_true, and_self, true_and, and_true, if_true, if_false, not_true_eq_false, not_false_eq_true, reduceIte, Nat.reduceAdd, Nat.reduceLT, Nat.reduceLeDiff, Nat.reduceEqDiff, Int.reduceAdd, Int.reduceSub, Int.reduceMul, Int.reduceNeg, Int.reduceLT, Int.reduceLE, Int.reduceEq, Int.reduceToNat, Int.toNat_natCast, Nat.lt_add_one, Nat.zero_lt_succ, zup_ne hpw, hp, h1, h2, h3, h4, h5, h6, psh_step]
    exact ih i (by omega) (by omega)
theorem s_X3_insert (hd : 2 ≤ d) (hpw : p ≠ w) (hp : f p = some (kO 3 [.ref w, .int (I n)])) (hw : f w = some (kL 60 a)) (hn : n ≤ 60) (ha : prg a n) (hx : 0 ≤ x ∧ x < 4611686018427387904) (hr : psp a n x r) : zrun zTb d 29 [.ref p, .long (J x)] f m =
    if r < n ∧ a r = x then some (.inl (some (.int (I 1))), f, m) else if n < 60 then some (.inl (some (.int (I 1))), zup (zup f w (kL 60 (pin a n r x))) p (kO 3 [.ref w, .int (I ((n + 1 : Nat) : Int))]), m) else some (.inl (some (.int (I 0))), f, m) := by
  obtain ⟨d, rfl⟩ : ∃ e, d = e + 1 := ⟨d - 1, by omega⟩
  have hr1 := hr.1
  have e1 := s_X3_earlierThan (d := d) (f := f) (m := m) (by omega) hp hw hn ha hx hr
  have e2 := s_X3_has (d := d) (m := m) (j := r) (by omega) hp hw hn (by omega) (by omega)
  rw [zs_X3_insert]
  have hl : n < 60 → zex zTb d zqX3_insert 47 [.ref p, .long (J x), .null, .int (I r), .int (I n)] [] f m = some (.inl (some (.int (I 1))), zup (zup f w (kL 60 (pin a n r x))) p (kO 3 [.ref w, .int (I ((n + 1 : Nat) : Int))]), m) := by
    intro h
    have := l_X3_insert (d := d) (f := f) (m := m) (a := a) (x := x) hpw hp h hr1 (n - r) n (by omega) (by omega)
    rw [psh_n, zup_self hw] at this
    exact this
  by_cases h : r < n
  · have h1 : (0 ≤ (r : Int) ∧ (r : Int) < n) = True := by apply propext; exact ⟨fun _ => trivial, fun _ => ⟨by omega, by omega⟩⟩
    have h2 : (0 ≤ (r : Int) ∧ (r : Int) < 60) = True := by apply propext; exact ⟨fun _ => trivial, fun _ => ⟨by omega, by omega⟩⟩
    have h4 := ha r h
    simp (disch := omega) only [ze_X3_insert_0, ze_X3_insert_5, ze_X3_insert_11, ze_X3_insert_14, ze_X3_insert_18, ze_X3_insert_20, ze_X3_insert_25, ze_X3_insert_27, ze_X3_insert_31, ze_X3_insert_35, ze_X3_insert_36, ze_X3_insert_39, ze_X3_insert_41, ze_X3_insert_45, ze_X3_insert_53, ze_X3_insert_57, ze_X3_insert_63, ze_X3_insert_68, ze_X3_insert_69, ze_X3_insert_75, ze_X3_insert_79, ze_X3_insert_82, ze_X3_insert_87, ze_X3_insert_92, zcal_v, zcal_n, zcalI_n, zco_O, zcf_O, zcs_O, zisc_O, zr8_A, zr8_S, zri_A, zri_B, zri_C, zrl_L, zrd_D, zrs_R, zgi_A, zgi_S, zgi_B, zgi_C, zgl_L, zgd_D, zisa_A, zisa_S, zisa_L, zisa_B, zisa_R, zln_A, zln_S, zln_L, zln_B, zln_R, zwi_A, zwl_L, zwd_D, zclr_i, zclr_r, zclr_l, zclr_d, zclr_n, zok_i, zok_l, zok_b0, zok_b1, I_add, I_sub, I_mul, I_neg, J_add, J_sub, J_mul, J_toI, I_ofNat, zib_I, I_cl, I_J, I_ne2, zup_same, zup_up, zc1_eqB, zc1_neB, zc1_eq, zc1_ne, zc1_lt, zc1_ge, zc1_gt, zc1_le, zc2_eq, zc2_ne, zc2_lt, zc2_ge, zc2_gt, zc2_le, lc_eq, lc_ne, lc_ge, lc_le, lc_gt, lc_lt, zret_b, zret_b0, zret_b1, List.getD_cons_zero, List.getD_cons_succ, List.length_cons, List.length_nil, List.set_cons_zero, List.set_cons_succ, Option.toList, List.cons_append, List.nil_append, Int.cast_ofNat_Int, decide_eq_true_eq, Bool.and_eq_true, and_self, true_and, and_true, if_true, if_false, not_true_eq_false, not_false_eq_true, reduceIte, Nat.reduceAdd, Nat.reduceLT, Nat.reduceLeDiff, Nat.reduceEqDiff, Int.reduceAdd, Int.reduceSub, Int.reduceMul, Int.reduceNeg, Int.reduceLT, Int.reduceLE, Int.reduceEq, Int.reduceToNat, Int.toNat_natCast, Nat.lt_add_one, Nat.zero_lt_succ, hp, hw, e1, e2, h1, h2]
    by_cases hh : a r = x
    · rw [if_neg (fun z => z hh), if_pos ⟨h, hh⟩]
    · by_cases h6 : n < 60
      · rw [if_pos hh, if_pos (by omega), if_neg (fun z => hh z.2), if_pos h6, hl h6]
      · rw [if_pos hh, if_neg (by omega), if_neg (fun z => hh z.2), if_neg h6]
  · have h1 : (0 ≤ (r : Int) ∧ (r : Int) < n) = False := by apply propext; exact ⟨fun z => by omega, False.elim⟩
    simp (disch := omega) only [ze_X3_insert_0, ze_X3_insert_5, ze_X3_insert_11, ze_X3_insert_14, ze_X3_insert_18, ze_X3_insert_20, ze_X3_insert_25, ze_X3_insert_27, ze_X3_insert_31, ze_X3_insert_35, ze_X3_insert_36, ze_X3_insert_39, ze_X3_insert_41, ze_X3_insert_45, ze_X3_insert_53, ze_X3_insert_57, ze_X3_insert_63, ze_X3_insert_68, ze_X3_insert_69, ze_X3_insert_75, ze_X3_insert_79, ze_X3_insert_82, ze_X3_insert_87, ze_X3_insert_92, zcal_v, zcal_n, zcalI_n, zco_O, zcf_O, zcs_O, zisc_O, zr8_A, zr8_S, zri_A, zri_B, zri_C, zrl_L, zrd_D, zrs_R, zgi_A, zgi_S, zgi_B, zgi_C, zgl_L, zgd_D, zisa_A, zisa_S, zisa_L, zisa_B, zisa_R, zln_A, zln_S, zln_L, zln_B, zln_R, zwi_A, zwl_L, zwd_D, zclr_i, zclr_r, zclr_l, zclr_d, zclr_n, zok_i, zok_l, zok_b0, zok_b1, I_add, I_sub, I_mul, I_neg, J_add, J_sub, J_mul, J_toI, I_ofNat, zib_I, I_cl, I_J, I_ne2, zup_same, zup_up, zc1_eqB, zc1_neB, zc1_eq, zc1_ne, zc1_lt, zc1_ge, zc1_gt, zc1_le, zc2_eq, zc2_ne, zc2_lt, zc2_ge, zc2_gt, zc2_le, lc_eq, lc_ne, lc_ge, lc_le, lc_gt, lc_lt, zret_b, zret_b0, zret_b1, List.getD_cons_zero, List.getD_cons_succ, List.length_cons, List.length_nil, List.set_cons_zero, List.set_cons_succ, Option.toList, List.cons_append, List.nil_append, Int.cast_ofNat_Int, decide_eq_true_eq, Bool.and_eq_true, and_self, true_and, and_true, if_true, if_false, not_true_eq_false, not_false_eq_true, reduceIte, Nat.reduceAdd, Nat.reduceLT, Nat.reduceLeDiff, Nat.reduceEqDiff, Int.reduceAdd, Int.reduceSub, Int.reduceMul, Int.reduceNeg, Int.reduceLT, Int.reduceLE, Int.reduceEq, Int.reduceToNat, Int.toNat_natCast, Nat.lt_add_one, Nat.zero_lt_succ, hp, hw, e1, e2, h1]
    by_cases h6 : n < 60
    · rw [if_pos (by omega), if_neg (fun z => h z.1), if_pos h6, hl h6]
    · rw [if_neg (by omega), if_neg (fun z => h z.1), if_neg h6]
end
