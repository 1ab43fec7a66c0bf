/-! SPECS: trial, spelled words; a pattern fits a word -/
section
variable {d p n len w : Nat} {f : zF} {m : zM} {K L Z LT : Nat → Int} {E : Nat → Nat → Nat}
theorem l2_X7_fits {a2 : Value} (hd : 3 ≤ d) (hl : len ≤ 6) (hp : pat f p n K L Z) (hpd : 209 < p) (hn : n ≤ 60) (hK : ∀ i, i < n → 0 ≤ K i ∧ K i < 7) (hZ : ∀ i, i < n → 0 ≤ Z i ∧ Z i ≤ 60) (hLT : ∀ i, 0 ≤ LT i ∧ LT i < 256) (hL : ∀ i, 0 ≤ L i ∧ L i < 256) : ∀ (i : Nat) (E : Nat → Nat → Nat) (x : Int) (a5 : Value), i ≤ n → (∀ i s, E i s < 128) → x = (i : Int) - 1 → zex zTb d zqX7_fits 13 [.ref 147, .ref p, a2, .null, .int (I x), a5] [] (sett f len LT E) m = some (.inl (some (.int (I (if En n len K L Z LT i E 0 0 / 2 ^ len % 2 = 0 then 0 else 1)))), sett f len LT (En n len K L Z LT i E), m) := by
  intro i
  induction i with
  | zero =>
    intro E x a5 _ hE hx
    obtain rfl : x = -1 := by omega
    have t := tri_sett (f := f) (len := len) (LT := LT) (E := E)
    obtain ⟨t0, t1, t2, t3⟩ := t
    have t3' := t3 0 (by omega)
    rw [Nat.add_zero] at t3'
    have h1 := hE 0 0
    have hb : E 0 0 / 2 ^ len % 2 < 2 := Nat.mod_lt _ (by omega)
    have hq : zgq (some (kR 6 60 (fun i => 150 + i))) 0 = 150 := zgq_R (by omega)
    rw [ze_X7_fits_13]
    simp (disch := omega) only [ze_X7_fits_0, ze_X7_fits_5, ze_X7_fits_9, ze_X7_fits_18, ze_X7_fits_24, ze_X7_fits_25, ze_X7_fits_28, ze_X7_fits_32, ze_X7_fits_39, ze_X7_fits_43, ze_X7_fits_46, ze_X7_fits_57, ze_X7_fits_58, ze_X7_fits_64, ze_X7_fits_70, ze_X7_fits_74, ze_X7_fits_76, ze_X7_fits_78, ze_X7_fits_82, ze_X7_fits_88, ze_X7_fits_92, zcal_v, zcal_n, zcalI_n, zco_O, zcf_O, zcs_O, zisc_O, zr8_A, zr8_S, zri_A, zri_B, zri_C, zrl_L, zrd_D, zrs_R, zgi_A, zgi_S, zgi_B, zgi_C, zgl_L, zgd_D, zisa_A, zisa_S, zisa_L, zisa_B, zisa_R, zln_A, zln_S, zln_L, zln_B, zln_R, zwi_A, zwl_L, zwd_D, zclr_i, zclr_r, zclr_l, zclr_d, zclr_n, zok_i, zok_l, zok_b0, zok_b1, I_add, I_sub, I_mul, I_neg, J_add, J_sub, J_mul, J_toI, I_ofNat, zib_I, I_cl, I_J, I_ne2, zup_same, zup_up, zup_ne, zc1_eqB, zc1_neB, zc1_eq, zc1_ne, zc1_lt, zc1_ge, zc1_gt, zc1_le, zc2_eq, zc2_ne, zc2_lt, zc2_ge, zc2_gt, zc2_le, lc_eq, lc_ne, lc_ge, lc_le, lc_gt, lc_lt, zret_b, zret_b0, zret_b1, List.getD_cons_zero, List.getD_cons_succ, List.length_cons, List.length_nil, List.set_cons_zero, List.set_cons_succ, Option.toList, List.cons_append, List.nil_append, Int.cast_ofNat_Int, decide_eq_true_eq, Bool.and_eq_true, and_self, true_and, and_true, if_true, if_false, not_true_eq_false, not_false_eq_true, reduceIte, Nat.reduceAdd, Nat.reduceLT, Nat.reduceLeDiff, Nat.reduceEqDiff, Int.reduceAdd, Int.reduceSub, Int.reduceMul, Int.reduceNeg, Int.reduceLT, Int.reduceLE, Int.reduceEq, Int.reduceToNat, Int.toNat_natCast, Nat.lt_add_one, Nat.zero_lt_succ, t0, t2, t3', zrq_R, hq, I_ushr, I_and1]
    unfold En
    by_cases h : E 0 0 / 2 ^ len % 2 = 0
    · rw [if_pos (by omega), if_pos h]
    · rw [if_neg (by omega), if_neg h]
  | succ i ih =>
    intro E x a5 hi hE hx
    obtain rfl : x = (i : Int) := by omega
    have t := tri_sett (f := f) (len := len) (LT := LT) (E := E)
    obtain ⟨t0, t1, t2, t3⟩ := t
    have b1 : ((i : Int) < 0) = False := by apply propext; exact ⟨fun z => by omega, False.elim⟩
    have b2 : (60 ≤ (i : Int)) = False := by apply propext; exact ⟨fun z => by omega, False.elim⟩
    rw [ze_X7_fits_13]
    simp (disch := omega) only [ze_X7_fits_0, ze_X7_fits_5, ze_X7_fits_9, ze_X7_fits_18, ze_X7_fits_24, ze_X7_fits_25, ze_X7_fits_28, ze_X7_fits_32, ze_X7_fits_39, ze_X7_fits_43, ze_X7_fits_46, ze_X7_fits_57, ze_X7_fits_58, ze_X7_fits_64, ze_X7_fits_70, ze_X7_fits_74, ze_X7_fits_76, ze_X7_fits_78, ze_X7_fits_82, ze_X7_fits_88, ze_X7_fits_92, zcal_v, zcal_n, zcalI_n, zco_O, zcf_O, zcs_O, zisc_O, zr8_A, zr8_S, zri_A, zri_B, zri_C, zrl_L, zrd_D, zrs_R, zgi_A, zgi_S, zgi_B, zgi_C, zgl_L, zgd_D, zisa_A, zisa_S, zisa_L, zisa_B, zisa_R, zln_A, zln_S, zln_L, zln_B, zln_R, zwi_A, zwl_L, zwd_D, zclr_i, zclr_r, zclr_l, zclr_d, zclr_n, zok_i, zok_l, zok_b0, zok_b1, I_add, I_sub, I_mul, I_neg, J_add, J_sub, J_mul, J_toI, I_ofNat, zib_I, I_cl, I_J, I_ne2, zup_same, zup_up, zup_ne, zc1_eqB, zc1_neB, zc1_eq, zc1_ne, zc1_lt, zc1_ge, zc1_gt, zc1_le, zc2_eq, zc2_ne, zc2_lt, zc2_ge, zc2_gt, zc2_le, lc_eq, lc_ne, lc_ge, lc_le, lc_gt, lc_lt, zret_b, zret_b0, zret_b1, List.getD_cons_zero, List.getD_cons_succ, List.length_cons, List.length_nil, List.set_cons_zero, List.set_cons_succ, Option.toList, List.cons_append, List.nil_append, Int.cast_ofNat_Int, decide_eq_true_eq, Bool.and_eq_true, and_self, true_and, and_true, if_true, if_false, not_true_eq_false, not_false_eq_true, reduceIte, Nat.reduceAdd, Nat.reduceLT, Nat.reduceLeDiff, Nat.reduceEqDiff, Int.reduceAdd, Int.reduceSub, Int.reduceMul, Int.reduceNeg, Int.reduceLT, Int.reduceLE, Int.reduceEq, Int.reduceToNat, Int.toNat_natCast, Nat.lt_add_one, Nat.zero_lt_succ, t0, t2, b1, b2]
    rw [l1_X7_fits (node := i) hd hl hp hpd hn (by omega) hK hZ hLT hL (len + 1) E len (by omega) hE (by omega)]
    exact ih _ _ _ (by omega) (Es_lt hl (len + 1) E (by omega) hE) (by omega)
/-- the letters of a word of len letters, spelled over what was there -/
def spl (w len : Nat) (LT : Nat → Int) : Nat → Int := pcp (fun j => ((bt w (8 * (len - 1 - j)) : Nat) : Int)) LT len
theorem l_X7_spell (hw : w < 18446744073709551616) (hl : len ≤ 6) : ∀ r i : Nat, i + r = len → zex zTb d zqX7_spell 10 [.ref 147, .long (J w), .null, .int (I i)] [] (sett f len (pcp (fun j => ((bt w (8 * (len - 1 - j)) : Nat) : Int)) LT i) E) m = some (.inl none, sett f len (spl w len LT) E, m) := by
  intro r
  induction r with
  | zero =>
    intro i hi
    obtain rfl : i = len := by omega
    have t := tri_sett (f := f) (len := i) (LT := pcp (fun j => ((bt w (8 * (i - 1 - j)) : Nat) : Int)) LT i) (E := E)
    have b1 : ((i : Int) ≤ i) = True := by apply propext; exact ⟨fun _ => trivial, fun _ => by omega⟩
    rw [ze_X7_spell_10]
    simp (disch := omega) only [ze_X7_spell_0, ze_X7_spell_5, ze_X7_spell_8, ze_X7_spell_15, ze_X7_spell_18, ze_X7_spell_23, ze_X7_spell_24, ze_X7_spell_27, ze_X7_spell_31, ze_X7_spell_39, ze_X7_spell_51, ze_X7_spell_57, zcal_v, zcal_n, zcalI_n, zco_O, zcf_O, zcs_O, zisc_O, zr8_A, zr8_S, zri_A, zri_B, zri_C, zrl_L, zrd_D, zrs_R, zgi_A, zgi_S, zgi_B, zgi_C, zgl_L, zgd_D, zisa_A, zisa_S, zisa_L, zisa_B, zisa_R, zln_A, zln_S, zln_L, zln_B, zln_R, zwi_A, zwl_L, zwd_D, zclr_i, zclr_r, zclr_l, zclr_d, zclr_n, zok_i, zok_l, zok_b0, zok_b1, I_add, I_sub, I_mul, I_neg, J_add, J_sub, J_mul, J_toI, I_ofNat, zib_I, I_cl, I_J, I_ne2, zup_same, zup_up, zup_ne, zc1_eqB, zc1_neB, zc1_eq, zc1_ne, zc1_lt, zc1_ge, zc1_gt, zc1_le, zc2_eq, zc2_ne, zc2_lt, zc2_ge, zc2_gt, zc2_le, lc_eq, lc_ne, lc_ge, lc_le, lc_gt, lc_lt, zret_b, zret_b0, zret_b1, List.getD_cons_zero, List.getD_cons_succ, List.length_cons, List.length_nil, List.set_cons_zero, List.set_cons_succ, Option.toList, List.cons_append, List.nil_append, Int.cast_ofNat_Int, decide_eq_true_eq, Bool.and_eq_true, and_self, true_and, and_true, if_true, if_false, not_true_eq_false, not_false_eq_true, reduceIte, Nat.reduceAdd, Nat.reduceLT, Nat.reduceLeDiff, Nat.reduceEqDiff, Int.reduceAdd, Int.reduceSub, Int.reduceMul, Int.reduceNeg, Int.reduceLT, Int.reduceLE, Int.reduceEq, Int.reduceToNat, Int.toNat_natCast, Nat.lt_add_one, Nat.zero_lt_succ, t.1, b1]
    rfl
  | succ r ih =>
    intro i hi
    have t := tri_sett (f := f) (len := len) (LT := pcp (fun j => ((bt w (8 * (len - 1 - j)) : Nat) : Int)) LT i) (E := E)
    have b1 : ((len : Int) ≤ i) = False := by apply propext; exact ⟨fun z => by omega, False.elim⟩
    have b2 : (6 ≤ (i : Int)) = False := by apply propext; exact ⟨fun z => by omega, False.elim⟩
    have b3 : (0 ≤ (i : Int) ∧ (i : Int) < 6) = True := by apply propext; exact ⟨fun _ => trivial, fun _ => ⟨by omega, by omega⟩⟩
    have b4 : (8 * ((len : Int) - 1 - i)).toNat = 8 * (len - 1 - i) := by omega
    have b5 : zup (sett f len (pcp (fun j => ((bt w (8 * (len - 1 - j)) : Nat) : Int)) LT i) E) 148 (kA 6 (pcp (fun j => ((bt w (8 * (len - 1 - j)) : Nat) : Int)) LT (i + 1))) = sett f len (pcp (fun j => ((bt w (8 * (len - 1 - j)) : Nat) : Int)) LT (i + 1)) E := by
      apply sett_of
      · exact ⟨by rw [zup_ne (by omega), t.1], zup_same, by rw [zup_ne (by omega), t.2.2.1], fun j hj => by rw [zup_ne (by omega), t.2.2.2 j hj]⟩
      · intro j hj; rw [zup_ne (by omega), sett_ne hj]
    have b6 : zst (pcp (fun j => ((bt w (8 * (len - 1 - j)) : Nat) : Int)) LT i) i ((bt w (8 * (len - 1 - i)) : Nat) : Int) = pcp (fun j => ((bt w (8 * (len - 1 - j)) : Nat) : Int)) LT (i + 1) := pcp_step (b := fun j => ((bt w (8 * (len - 1 - j)) : Nat) : Int))
    rw [ze_X7_spell_10]
    simp (disch := omega) only [ze_X7_spell_0, ze_X7_spell_5, ze_X7_spell_8, ze_X7_spell_15, ze_X7_spell_18, ze_X7_spell_23, ze_X7_spell_24, ze_X7_spell_27, ze_X7_spell_31, ze_X7_spell_39, ze_X7_spell_51, ze_X7_spell_57, zcal_v, zcal_n, zcalI_n, zco_O, zcf_O, zcs_O, zisc_O, zr8_A, zr8_S, zri_A, zri_B, zri_C, zrl_L, zrd_D, zrs_R, zgi_A, zgi_S, zgi_B, zgi_C, zgl_L, zgd_D, zisa_A, zisa_S, zisa_L, zisa_B, zisa_R, zln_A, zln_S, zln_L, zln_B, zln_R, zwi_A, zwl_L, zwd_D, zclr_i, zclr_r, zclr_l, zclr_d, zclr_n, zok_i, zok_l, zok_b0, zok_b1, I_add, I_sub, I_mul, I_neg, J_add, J_sub, J_mul, J_toI, I_ofNat, zib_I, I_cl, I_J, I_ne2, zup_same, zup_up, zup_ne, zc1_eqB, zc1_neB, zc1_eq, zc1_ne, zc1_lt, zc1_ge, zc1_gt, zc1_le, zc2_eq, zc2_ne, zc2_lt, zc2_ge, zc2_gt, zc2_le, lc_eq, lc_ne, lc_ge, lc_le, lc_gt, lc_lt, zret_b, zret_b0, zret_b1, List.getD_cons_zero, List.getD_cons_succ, List.length_cons, List.length_nil, List.set_cons_zero, List.set_cons_succ, Option.toList, List.cons_append, List.nil_append, Int.cast_ofNat_Int, decide_eq_true_eq, Bool.and_eq_true, and_self, true_and, and_true, if_true, if_false, not_true_eq_false, not_false_eq_true, reduceIte, Nat.reduceAdd, Nat.reduceLT, Nat.reduceLeDiff, Nat.reduceEqDiff, Int.reduceAdd, Int.reduceSub, Int.reduceMul, Int.reduceNeg, Int.reduceLT, Int.reduceLE, Int.reduceEq, Int.reduceToNat, Int.toNat_natCast, Nat.lt_add_one, Nat.zero_lt_succ, t.1, t.2.1, b1, b2, b3, J_byte, b4, b6, b5]
    exact ih (i + 1) (by omega)
theorem s_X7_spell {len0 : Nat} (hd : 2 ≤ d) (ht : tri f len0 LT E) (hl : len ≤ 6) (hw : wsz w len) : zrun zTb d 66 [.ref 147, .long (J w)] f m = some (.inl none, sett f len (spl w len LT) E, m) := by
  obtain ⟨d, rfl⟩ : ∃ e, d = e + 1 := ⟨d - 1, by omega⟩
  have h3 : w < 2 ^ 48 := Nat.lt_of_lt_of_le hw.1 (Nat.pow_le_pow_right (by omega) (by omega))
  have e1 := s_X8_lengthOf (d := d) (f := f) (m := m) (by omega) hl hw
  have b5 : zup f 147 (kO 7 [.ref 148, .int (I len), .ref 149]) = sett f len LT E := by
    apply sett_of
    · exact ⟨zup_same, by rw [zup_ne (by omega), ht.2.1], by rw [zup_ne (by omega), ht.2.2.1], fun j hj => by rw [zup_ne (by omega), ht.2.2.2 j hj]⟩
    · intro j hj; rw [zup_ne (by omega)]
  have := l_X7_spell (d := d) (f := f) (m := m) (LT := LT) (E := E) (w := w) (by omega) hl len 0 (by omega)
  rw [pcp_zero] at this
  rw [zs_X7_spell]
  simp (disch := omega) only [ze_X7_spell_0, ze_X7_spell_5, ze_X7_spell_8, ze_X7_spell_15, ze_X7_spell_18, ze_X7_spell_23, ze_X7_spell_24, ze_X7_spell_27, ze_X7_spell_31, ze_X7_spell_39, ze_X7_spell_51, ze_X7_spell_57, zcal_v, zcal_n, zcalI_n, zco_O, zcf_O, zcs_O, zisc_O, zr8_A, zr8_S, zri_A, zri_B, zri_C, zrl_L, zrd_D, zrs_R, zgi_A, zgi_S, zgi_B, zgi_C, zgl_L, zgd_D, zisa_A, zisa_S, zisa_L, zisa_B, zisa_R, zln_A, zln_S, zln_L, zln_B, zln_R, zwi_A, zwl_L, zwd_D, zclr_i, zclr_r, zclr_l, zclr_d, zclr_n, zok_i, zok_l, zok_b0, zok_b1, I_add, I_sub, I_mul, I_neg, J_add, J_sub, J_mul, J_toI, I_ofNat, zib_I, I_cl, I_J, I_ne2, zup_same, zup_up, zup_ne, zc1_eqB, zc1_neB, zc1_eq, zc1_ne, zc1_lt, zc1_ge, zc1_gt, zc1_le, zc2_eq, zc2_ne, zc2_lt, zc2_ge, zc2_gt, zc2_le, lc_eq, lc_ne, lc_ge, lc_le, lc_gt, lc_lt, zret_b, zret_b0, zret_b1, List.getD_cons_zero, List.getD_cons_succ, List.length_cons, List.length_nil, List.set_cons_zero, List.set_cons_succ, Option.toList, List.cons_append, List.nil_append, Int.cast_ofNat_Int, decide_eq_true_eq, Bool.and_eq_true, and_self, true_and, and_true, if_true, if_false, not_true_eq_false, not_false_eq_true, reduceIte, Nat.reduceAdd, Nat.reduceLT, Nat.reduceLeDiff, Nat.reduceEqDiff, Int.reduceAdd, Int.reduceSub, Int.reduceMul, Int.reduceNeg, Int.reduceLT, Int.reduceLE, Int.reduceEq, Int.reduceToNat, Int.toNat_natCast, Nat.lt_add_one, Nat.zero_lt_succ, ht.1, e1, zfty_7_1, b5]
  exact this
theorem s_X7_fits {len0 : Nat} (hd : 4 ≤ d) (ht : tri f len0 LT E) (hE : ∀ i s, E i s < 128) (hl : len ≤ 6) (hw : wsz w len) (hp : pat f p n K L Z) (hpd : 209 < p) (hn : n ≤ 60) (hK : ∀ i, i < n → 0 ≤ K i ∧ K i < 7) (hZ : ∀ i, i < n → 0 ≤ Z i ∧ Z i ≤ 60) (hLT : ∀ i, 0 ≤ LT i ∧ LT i < 256) (hL : ∀ i, 0 ≤ L i ∧ L i < 256) : zrun zTb d 65 [.ref 147, .ref p, .long (J w)] f m = some (.inl (some (.int (I (if En n len K L Z (spl w len LT) n E 0 0 / 2 ^ len % 2 = 0 then 0 else 1)))), sett f len (spl w len LT) (En n len K L Z (spl w len LT) n E), m) := by
  obtain ⟨d, rfl⟩ : ∃ e, d = e + 1 := ⟨d - 1, by omega⟩
  have e1 := s_X7_spell (d := d) (m := m) (by omega) ht hl hw
  have hLT' : ∀ i, 0 ≤ spl w len LT i ∧ spl w len LT i < 256 := by
    intro i
    unfold spl pcp
    have := bt_lt (n := w) (s := 8 * (len - 1 - i))
    split
    · dsimp only; omega
    · exact hLT i
  rw [zs_X7_fits]
  have hp0 : sett f len (spl w len LT) E p = some (kO 2 [.ref (p + 1), .ref (p + 2), .ref (p + 3), .int (I n)]) := by rw [sett_ne (by omega), hp.1]
  simp (disch := omega) only [ze_X7_fits_0, ze_X7_fits_5, ze_X7_fits_9, ze_X7_fits_18, ze_X7_fits_24, ze_X7_fits_25, ze_X7_fits_28, ze_X7_fits_32, ze_X7_fits_39, ze_X7_fits_43, ze_X7_fits_46, ze_X7_fits_57, ze_X7_fits_58, ze_X7_fits_64, ze_X7_fits_70, ze_X7_fits_74, ze_X7_fits_76, ze_X7_fits_78, ze_X7_fits_82, ze_X7_fits_88, ze_X7_fits_92, zcal_v, zcal_n, zcalI_n, zco_O, zcf_O, zcs_O, zisc_O, zr8_A, zr8_S, zri_A, zri_B, zri_C, zrl_L, zrd_D, zrs_R, zgi_A, zgi_S, zgi_B, zgi_C, zgl_L, zgd_D, zisa_A, zisa_S, zisa_L, zisa_B, zisa_R, zln_A, zln_S, zln_L, zln_B, zln_R, zwi_A, zwl_L, zwd_D, zclr_i, zclr_r, zclr_l, zclr_d, zclr_n, zok_i, zok_l, zok_b0, zok_b1, I_add, I_sub, I_mul, I_neg, J_add, J_sub, J_mul, J_toI, I_ofNat, zib_I, I_cl, I_J, I_ne2, zup_same, zup_up, zup_ne, zc1_eqB, zc1_neB, zc1_eq, zc1_ne, zc1_lt, zc1_ge, zc1_gt, zc1_le, zc2_eq, zc2_ne, zc2_lt, zc2_ge, zc2_gt, zc2_le, lc_eq, lc_ne, lc_ge, lc_le, lc_gt, lc_lt, zret_b, zret_b0, zret_b1, List.getD_cons_zero, List.getD_cons_succ, List.length_cons, List.length_nil, List.set_cons_zero, List.set_cons_succ, Option.toList, List.cons_append, List.nil_append, Int.cast_ofNat_Int, decide_eq_true_eq, Bool.and_eq_true, and_self, true_and, and_true, if_true, if_false, not_true_eq_false, not_false_eq_true, reduceIte, Nat.reduceAdd, Nat.reduceLT, Nat.reduceLeDiff, Nat.reduceEqDiff, Int.reduceAdd, Int.reduceSub, Int.reduceMul, Int.reduceNeg, Int.reduceLT, Int.reduceLE, Int.reduceEq, Int.reduceToNat, Int.toNat_natCast, Nat.lt_add_one, Nat.zero_lt_succ, ht.1, e1, hp0]
  exact l2_X7_fits (by omega) hl hp hpd hn hK hZ hLT' hL n E _ _ (by omega) hE (by omega)
end
