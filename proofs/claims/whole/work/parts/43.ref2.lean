/-! SPECS: the reference reads a word -/
theorem zsbyte (x : BitVec 64) (k : Nat) (hk : k ≤ 56) : x.sshiftRight k &&& 255#64 = x >>> k &&& 255#64 := by
  apply BitVec.eq_of_getLsbD_eq
  intro i hi
  rw [BitVec.getLsbD_and, BitVec.getLsbD_and]
  by_cases h8 : i < 8
  · rw [BitVec.getLsbD_sshiftRight, BitVec.getLsbD_ushiftRight]
    rw [if_pos (by omega), decide_eq_false (by omega)]
    simp
  · have : (255#64).getLsbD i = false := by
      rw [BitVec.getLsbD_ofNat, Nat.testBit_lt_two_pow, Bool.and_false]
      exact Nat.lt_of_lt_of_le (by decide : 255 < 2 ^ 8) (Nat.pow_le_pow_right (by omega) (by omega))
    rw [this, Bool.and_false, Bool.and_false]
theorem zJ63 (k : Nat) (hk : k < 64) : J k &&& 63 = J (k : Int) := by
  apply Int64.toBitVec_inj.mp
  rw [Int64.toBitVec_and, J_bv]
  apply BitVec.eq_of_toNat_eq
  rw [BitVec.toNat_and, BitVec.toNat_ofNat, Nat.mod_eq_of_lt (by omega)]
  exact (Nat.and_two_pow_sub_one_eq_mod k 6).trans (Nat.mod_eq_of_lt hk)
theorem zJ_sb (a k : Nat) (hk : k ≤ 56) : J a >>> (J k &&& 63) &&& J 255 = ((J a).toUInt64 >>> ((J k).toUInt64 &&& Int64.toUInt64 63)).toInt64 &&& J 255 := by
  have e : (J k).toUInt64 &&& Int64.toUInt64 63 = (J k &&& 63).toUInt64 := rfl
  rw [e, zJ63 k (by omega)]
  apply Int64.toBitVec_inj.mp
  rw [Int64.toBitVec_and, Int64.toBitVec_and, Int64.toBitVec_shiftRight]
  have e2 : (((J a).toUInt64 >>> (J k).toUInt64).toInt64).toBitVec = (J a).toBitVec >>> ((J k).toBitVec % 64) := by
    show ((J a).toUInt64 >>> (J k).toUInt64).toBitVec = _
    rw [UInt64.toBitVec_shiftRight]; rfl
  rw [e2, J_bv k, smod64 k (by omega), show (J 255).toBitVec = 255#64 by decide]
  have e3 : (BitVec.ofNat 64 k % 64#64) = BitVec.ofNat 64 k := by
    apply BitVec.eq_of_toNat_eq
    rw [BitVec.toNat_umod, BitVec.toNat_ofNat, Nat.mod_eq_of_lt (show k < 2 ^ 64 by omega)]
    exact Nat.mod_eq_of_lt (by show k < 64; omega)
  rw [show (64 : BitVec 64) = 64#64 from rfl, e3]
  have e4 : (BitVec.ofNat 64 k).toNat = k := by rw [BitVec.toNat_ofNat, Nat.mod_eq_of_lt (by omega)]
  rw [BitVec.sshiftRight_eq', BitVec.ushiftRight_eq', e4]
  exact zsbyte _ k hk
theorem J_sbyte {a : Nat} {k : Int} (ha : a < 18446744073709551616) (h0 : 0 ≤ k) (hk : k ≤ 56) : J a >>> (J k &&& 63) &&& J 255 = J ((bt a k.toNat : Nat) : Int) := by
  obtain ⟨k, rfl⟩ := Int.eq_ofNat_of_zero_le h0
  rw [zJ_sb a k (by omega), J_byte ha h0 (by omega)]
/-- letters, as a number with base 4 -/
def w4 (l : List Nat) : Nat := l.foldl (fun x c => 4 * x + c - 96) 0
theorem w4_snoc (l : List Nat) (c : Nat) : w4 (l ++ [c]) = 4 * w4 l + c - 96 := by unfold w4; rw [List.foldl_append]; rfl
theorem w4_range : ∀ (n : Nat) (l : List Nat), l.length = n → wgood l → (∀ k, k < l.length → 4 ^ k ≤ w4 l) ∧ w4 l < 4 ^ l.length := by
  intro n
  induction n with
  | zero =>
    intro l hl hg
    rw [List.length_eq_zero_iff] at hl
    subst hl
    exact ⟨fun k hk => absurd hk (Nat.not_lt_zero k), by decide⟩
  | succ n ih =>
    intro l hl hg
    rcases List.eq_nil_or_concat l with rfl | ⟨l', c, rfl⟩
    · cases hl
    · rw [List.concat_eq_append] at hl hg ⊢
      rw [List.length_append, List.length_singleton] at hl
      obtain ⟨h1, h2⟩ := ih l' (by omega) (fun x hx => hg x (List.mem_append_left _ hx))
      have hc := hg c (List.mem_append_right _ (List.mem_singleton.mpr rfl))
      rw [w4_snoc, List.length_append, List.length_singleton]
      constructor
      · intro k hk
        rcases k with _ | k
        · rw [Nat.pow_zero]; omega
        · have := h1 k (by omega)
          rw [Nat.pow_succ]; omega
      · rw [Nat.pow_succ]; omega
section
variable {d n : Nat} {f : zF} {m : zM}
theorem wh_sub {k : Nat} (hk : k ≤ 8) : ∀ c, c ∈ wh n k → c ∈ wl n 8 := by
  intro c hc
  rw [← wh_app hk]
  exact List.mem_append_left _ hc
theorem l_X10_read (hd : 1 ≤ d) (hn : n < 18446744073709551616) : ∀ k : Nat, k ≤ 8 → ∀ (s : Int) (a4 : Value), s = 8 * (k : Int) - 8 → wgood (wh n k) → (wh n k).length ≤ 6 → zex zTb d zqX10_read 5 [.long (J n), .null, .int (I (w4 (wh n k) : Nat)), .int (I s), a4] [] f m = some (.inl (some (.int (I (if wgood (wl n 8) ∧ (wl n 8).length ≤ 6 then ((w4 (wl n 8) : Nat) : Int) else -1)))), f, m) := by
  intro k
  induction k with
  | zero =>
    intro _ s a4 hs hg hl
    obtain rfl : s = -8 := by omega
    have h0 := wh_app (n := n) (k := 0) (by omega)
    rw [show wl n 0 = [] from rfl, List.append_nil] at h0
    rw [h0] at hg hl ⊢
    rw [if_pos (show wgood (wl n 8) ∧ (wl n 8).length ≤ 6 from ⟨hg, hl⟩), ze_X10_read_5]
    simp (disch := omega) only [ze_X10_read_0, ze_X10_read_9, ze_X10_read_24, ze_X10_read_27, ze_X10_read_36, ze_X10_read_39, ze_X10_read_46, ze_X10_read_48, ze_X10_read_64, zcal_v, zcal_n, zcalI_n, zco_O, zcf_O, zcs_O, zisc_O, zr8_A, zr8_S, zri_A, zri_B, zri_C, zrl_L, zrd_D, zrs_R, zgi_A, zgi_S, zgi_B, zgi_C, zgl_L, zgd_D, zisa_A, zisa_S, zisa_L, zisa_B, zisa_R, zln_A, zln_S, zln_L, zln_B, zln_R, zwi_A, zwl_L, zwd_D, zclr_i, zclr_r, zclr_l, zclr_d, zclr_n, zok_i, zok_l, zok_b0, zok_b1, I_add, I_sub, I_mul, I_neg, J_add, J_sub, J_mul, J_toI, I_ofNat, zib_I, I_cl, I_J, I_ne2, zup_same, zup_up, zup_ne, zc1_eqB, zc1_neB, zc1_eq, zc1_ne, zc1_lt, zc1_ge, zc1_gt, zc1_le, zc2_eq, zc2_ne, zc2_lt, zc2_ge, zc2_gt, zc2_le, lc_eq, lc_ne, lc_ge, lc_le, lc_gt, lc_lt, zret_b, zret_b0, zret_b1, List.getD_cons_zero, List.getD_cons_succ, List.length_cons, List.length_nil, List.set_cons_zero, List.set_cons_succ, Option.toList, List.cons_append, List.nil_append, Int.cast_ofNat_Int, decide_eq_true_eq, Bool.and_eq_true, and_self, true_and, and_true, if_true, if_false, not_true_eq_false, not_false_eq_true, reduceIte, Nat.reduceAdd, Nat.reduceLT, Nat.reduceLeDiff, Nat.reduceEqDiff, Int.reduceAdd, Int.reduceSub, Int.reduceMul, Int.reduceNeg, Int.reduceLT, Int.reduceLE, Int.reduceEq, Int.reduceToNat, Int.toNat_natCast, Nat.lt_add_one, Nat.zero_lt_succ]
  | succ k ih =>
    intro hk s a4 hs hg hl
    obtain rfl : s = 8 * (k : Int) := by omega
    have hb := bt_lt (n := n) (s := 8 * k)
    have h8 : (8 * (k : Int)).toNat = 8 * k := by omega
    have hw := wh_step (n := n) (k := k) (by omega)
    obtain ⟨hr1, hr2⟩ := w4_range _ (wh n (k + 1)) rfl hg
    have hr3 : 4 ^ (wh n (k + 1)).length ≤ 4 ^ 6 := Nat.pow_le_pow_right (by omega) hl
    have b0 : (8 * (k : Int) < 0) = False := by apply propext; exact ⟨fun z => by omega, False.elim⟩
    have e1 := s_X10_isIn (d := d) (f := f) (m := m) (x := ((bt n (8 * k) : Nat) : Int)) (lo := 97) (hi := 99) hd (by omega) (by omega) (by omega) (by omega) (by omega) (by omega)
    rw [ze_X10_read_5]
    by_cases h0 : bt n (8 * k) = 0
    · rw [if_pos h0] at hw
      have b1 : (¬ ((bt n (8 * k) : Nat) : Int) = 0) = False := by apply propext; exact ⟨fun z => z (by omega), False.elim⟩
      simp (disch := omega) only [ze_X10_read_0, ze_X10_read_9, ze_X10_read_24, ze_X10_read_27, ze_X10_read_36, ze_X10_read_39, ze_X10_read_46, ze_X10_read_48, ze_X10_read_64, zcal_v, zcal_n, zcalI_n, zco_O, zcf_O, zcs_O, zisc_O, zr8_A, zr8_S, zri_A, zri_B, zri_C, zrl_L, zrd_D, zrs_R, zgi_A, zgi_S, zgi_B, zgi_C, zgl_L, zgd_D, zisa_A, zisa_S, zisa_L, zisa_B, zisa_R, zln_A, zln_S, zln_L, zln_B, zln_R, zwi_A, zwl_L, zwd_D, zclr_i, zclr_r, zclr_l, zclr_d, zclr_n, zok_i, zok_l, zok_b0, zok_b1, I_add, I_sub, I_mul, I_neg, J_add, J_sub, J_mul, J_toI, I_ofNat, zib_I, I_cl, I_J, I_ne2, zup_same, zup_up, zup_ne, zc1_eqB, zc1_neB, zc1_eq, zc1_ne, zc1_lt, zc1_ge, zc1_gt, zc1_le, zc2_eq, zc2_ne, zc2_lt, zc2_ge, zc2_gt, zc2_le, lc_eq, lc_ne, lc_ge, lc_le, lc_gt, lc_lt, zret_b, zret_b0, zret_b1, List.getD_cons_zero, List.getD_cons_succ, List.length_cons, List.length_nil, List.set_cons_zero, List.set_cons_succ, Option.toList, List.cons_append, List.nil_append, Int.cast_ofNat_Int, decide_eq_true_eq, Bool.and_eq_true, and_self, true_and, and_true, if_true, if_false, not_true_eq_false, not_false_eq_true, reduceIte, Nat.reduceAdd, Nat.reduceLT, Nat.reduceLeDiff, Nat.reduceEqDiff, Int.reduceAdd, Int.reduceSub, Int.reduceMul, Int.reduceNeg, Int.reduceLT, Int.reduceLE, Int.reduceEq, Int.reduceToNat, Int.toNat_natCast, Nat.lt_add_one, Nat.zero_lt_succ, J_sbyte, h8, b0, b1]
      rw [← hw] at hg hl ⊢
      exact ih (by omega) _ _ (by omega) hg hl
    · rw [if_neg h0] at hw
      have b1 : (¬ ((bt n (8 * k) : Nat) : Int) = 0) = True := by apply propext; exact ⟨fun _ => trivial, fun _ => by omega⟩
      have hmem : bt n (8 * k) ∈ wl n 8 := wh_sub (k := k) (by omega) _ (by rw [hw]; exact List.mem_append_right _ (List.mem_singleton.mpr rfl))
      have hlen : (wh n (k + 1)).length + 1 ≤ (wl n 8).length := by
        rw [← wh_app (n := n) (k := k) (by omega), List.length_append, hw, List.length_append, List.length_singleton]; omega
      by_cases hlet : 97 ≤ bt n (8 * k) ∧ bt n (8 * k) ≤ 99
      · have b2 : (97 ≤ ((bt n (8 * k) : Nat) : Int) ∧ ((bt n (8 * k) : Nat) : Int) ≤ 99) = True := by apply propext; exact ⟨fun _ => trivial, fun _ => ⟨by omega, by omega⟩⟩
        rw [if_pos (by omega)] at e1
        by_cases h6 : (wh n (k + 1)).length = 6
        · have hbig := hr1 5 (by omega)
          have b3 : (((w4 (wh n (k + 1)) : Nat) : Int) < 1024) = False := by apply propext; exact ⟨fun z => by omega, False.elim⟩
          rw [if_neg (show ¬ (wgood (wl n 8) ∧ (wl n 8).length ≤ 6) from fun z => by have := z.2; omega)]
          simp (disch := omega) only [ze_X10_read_0, ze_X10_read_9, ze_X10_read_24, ze_X10_read_27, ze_X10_read_36, ze_X10_read_39, ze_X10_read_46, ze_X10_read_48, ze_X10_read_64, zcal_v, zcal_n, zcalI_n, zco_O, zcf_O, zcs_O, zisc_O, zr8_A, zr8_S, zri_A, zri_B, zri_C, zrl_L, zrd_D, zrs_R, zgi_A, zgi_S, zgi_B, zgi_C, zgl_L, zgd_D, zisa_A, zisa_S, zisa_L, zisa_B, zisa_R, zln_A, zln_S, zln_L, zln_B, zln_R, zwi_A, zwl_L, zwd_D, zclr_i, zclr_r, zclr_l, zclr_d, zclr_n, zok_i, zok_l, zok_b0, zok_b1, I_add, I_sub, I_mul, I_neg, J_add, J_sub, J_mul, J_toI, I_ofNat, zib_I, I_cl, I_J, I_ne2, zup_same, zup_up, zup_ne, zc1_eqB, zc1_neB, zc1_eq, zc1_ne, zc1_lt, zc1_ge, zc1_gt, zc1_le, zc2_eq, zc2_ne, zc2_lt, zc2_ge, zc2_gt, zc2_le, lc_eq, lc_ne, lc_ge, lc_le, lc_gt, lc_lt, zret_b, zret_b0, zret_b1, List.getD_cons_zero, List.getD_cons_succ, List.length_cons, List.length_nil, List.set_cons_zero, List.set_cons_succ, Option.toList, List.cons_append, List.nil_append, Int.cast_ofNat_Int, decide_eq_true_eq, Bool.and_eq_true, and_self, true_and, and_true, if_true, if_false, not_true_eq_false, not_false_eq_true, reduceIte, Nat.reduceAdd, Nat.reduceLT, Nat.reduceLeDiff, Nat.reduceEqDiff, Int.reduceAdd, Int.reduceSub, Int.reduceMul, Int.reduceNeg, Int.reduceLT, Int.reduceLE, Int.reduceEq, Int.reduceToNat, Int.toNat_natCast, Nat.lt_add_one, Nat.zero_lt_succ, J_sbyte, h8, b0, b1, b2, b3, e1]
        · have hr4 : 4 ^ (wh n (k + 1)).length ≤ 4 ^ 5 := Nat.pow_le_pow_right (by omega) (by omega)
          have b3 : (((w4 (wh n (k + 1)) : Nat) : Int) < 1024) = True := by apply propext; exact ⟨fun _ => trivial, fun _ => by omega⟩
          have b4 : 4 * ((w4 (wh n (k + 1)) : Nat) : Int) + ((bt n (8 * k) : Nat) : Int) - 96 = ((w4 (wh n k) : Nat) : Int) := by rw [hw, w4_snoc]; omega
          simp (disch := omega) only [ze_X10_read_0, ze_X10_read_9, ze_X10_read_24, ze_X10_read_27, ze_X10_read_36, ze_X10_read_39, ze_X10_read_46, ze_X10_read_48, ze_X10_read_64, zcal_v, zcal_n, zcalI_n, zco_O, zcf_O, zcs_O, zisc_O, zr8_A, zr8_S, zri_A, zri_B, zri_C, zrl_L, zrd_D, zrs_R, zgi_A, zgi_S, zgi_B, zgi_C, zgl_L, zgd_D, zisa_A, zisa_S, zisa_L, zisa_B, zisa_R, zln_A, zln_S, zln_L, zln_B, zln_R, zwi_A, zwl_L, zwd_D, zclr_i, zclr_r, zclr_l, zclr_d, zclr_n, zok_i, zok_l, zok_b0, zok_b1, I_add, I_sub, I_mul, I_neg, J_add, J_sub, J_mul, J_toI, I_ofNat, zib_I, I_cl, I_J, I_ne2, zup_same, zup_up, zup_ne, zc1_eqB, zc1_neB, zc1_eq, zc1_ne, zc1_lt, zc1_ge, zc1_gt, zc1_le, zc2_eq, zc2_ne, zc2_lt, zc2_ge, zc2_gt, zc2_le, lc_eq, lc_ne, lc_ge, lc_le, lc_gt, lc_lt, zret_b, zret_b0, zret_b1, List.getD_cons_zero, List.getD_cons_succ, List.length_cons, List.length_nil, List.set_cons_zero, List.set_cons_succ, Option.toList, List.cons_append, List.nil_append, Int.cast_ofNat_Int, decide_eq_true_eq, Bool.and_eq_true, and_self, true_and, and_true, if_true, if_false, not_true_eq_false, not_false_eq_true, reduceIte, Nat.reduceAdd, Nat.reduceLT, Nat.reduceLeDiff, Nat.reduceEqDiff, Int.reduceAdd, Int.reduceSub, Int.reduceMul, Int.reduceNeg, Int.reduceLT, Int.reduceLE, Int.reduceEq, Int.reduceToNat, Int.toNat_natCast, Nat.lt_add_one, Nat.zero_lt_succ, J_sbyte, h8, b0, b1, b2, b3, b4, e1]
          refine ih (by omega) _ _ (by omega) ?_ ?_
          · rw [hw]
            intro c hc
            rcases List.mem_append.mp hc with hc | hc
            · exact hg c hc
            · rw [List.mem_singleton] at hc; subst hc; exact hlet
          · rw [hw, List.length_append, List.length_singleton]; omega
      · have b2 : (97 ≤ ((bt n (8 * k) : Nat) : Int) ∧ ((bt n (8 * k) : Nat) : Int) ≤ 99) = False := by apply propext; exact ⟨fun z => hlet (by omega), False.elim⟩
        rw [if_neg (by omega)] at e1
        rw [if_neg (show ¬ (wgood (wl n 8) ∧ (wl n 8).length ≤ 6) from fun z => hlet (z.1 _ hmem))]
        simp (disch := omega) only [ze_X10_read_0, ze_X10_read_9, ze_X10_read_24, ze_X10_read_27, ze_X10_read_36, ze_X10_read_39, ze_X10_read_46, ze_X10_read_48, ze_X10_read_64, zcal_v, zcal_n, zcalI_n, zco_O, zcf_O, zcs_O, zisc_O, zr8_A, zr8_S, zri_A, zri_B, zri_C, zrl_L, zrd_D, zrs_R, zgi_A, zgi_S, zgi_B, zgi_C, zgl_L, zgd_D, zisa_A, zisa_S, zisa_L, zisa_B, zisa_R, zln_A, zln_S, zln_L, zln_B, zln_R, zwi_A, zwl_L, zwd_D, zclr_i, zclr_r, zclr_l, zclr_d, zclr_n, zok_i, zok_l, zok_b0, zok_b1, I_add, I_sub, I_mul, I_neg, J_add, J_sub, J_mul, J_toI, I_ofNat, zib_I, I_cl, I_J, I_ne2, zup_same, zup_up, zup_ne, zc1_eqB, zc1_neB, zc1_eq, zc1_ne, zc1_lt, zc1_ge, zc1_gt, zc1_le, zc2_eq, zc2_ne, zc2_lt, zc2_ge, zc2_gt, zc2_le, lc_eq, lc_ne, lc_ge, lc_le, lc_gt, lc_lt, zret_b, zret_b0, zret_b1, List.getD_cons_zero, List.getD_cons_succ, List.length_cons, List.length_nil, List.set_cons_zero, List.set_cons_succ, Option.toList, List.cons_append, List.nil_append, Int.cast_ofNat_Int, decide_eq_true_eq, Bool.and_eq_true, and_self, true_and, and_true, if_true, if_false, not_true_eq_false, not_false_eq_true, reduceIte, Nat.reduceAdd, Nat.reduceLT, Nat.reduceLeDiff, Nat.reduceEqDiff, Int.reduceAdd, Int.reduceSub, Int.reduceMul, Int.reduceNeg, Int.reduceLT, Int.reduceLE, Int.reduceEq, Int.reduceToNat, Int.toNat_natCast, Nat.lt_add_one, Nat.zero_lt_succ, J_sbyte, h8, b0, b1, b2, e1]
theorem s_X10_read (hd : 2 ≤ d) (hn : n < 18446744073709551616) : zrun zTb d 117 [.long (J n)] f m = some (.inl (some (.int (I (if wgood (wl n 8) ∧ (wl n 8).length ≤ 6 then ((w4 (wl n 8) : Nat) : Int) else -1)))), f, m) := by
  obtain ⟨d, rfl⟩ : ∃ e, d = e + 1 := ⟨d - 1, by omega⟩
  have h8 : wh n 8 = [] := by
    have := wh_app (n := n) (k := 8) (by omega)
    exact List.append_cancel_right (this.trans (List.nil_append _).symm)
  have := l_X10_read (d := d) (f := f) (m := m) (by omega) hn 8 (by omega) 56 .null (by omega) (by rw [h8]; intro c hc; cases hc) (by rw [h8]; decide)
  rw [h8] at this
  rw [zs_X10_read]
  simp only [ze_X10_read_0, ze_X10_read_9, ze_X10_read_24, ze_X10_read_27, ze_X10_read_36, ze_X10_read_39, ze_X10_read_46, ze_X10_read_48, ze_X10_read_64, zclr_n]
  exact this
end
