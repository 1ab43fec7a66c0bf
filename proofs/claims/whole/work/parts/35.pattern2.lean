/-! SPECS: patterns that become others -/
section
variable {d p q c n k : Nat} {f : zF} {m : zM} {K L Z K2 L2 Z2 K' L' Z' : Nat → Int} {n' : Nat}
theorem setp_0 : setp f p n K L Z p = some (kO 2 [.ref (p + 1), .ref (p + 2), .ref (p + 3), .int (I n)]) := pat_setp.1
theorem setp_1 : setp f p n K L Z (p + 1) = some (kA 60 K) := pat_setp.2.1
theorem setp_2 : setp f p n K L Z (p + 2) = some (kA 60 L) := pat_setp.2.2.1
theorem setp_3 : setp f p n K L Z (p + 3) = some (kA 60 Z) := pat_setp.2.2.2
theorem setp_k : zup (setp f p n K L Z) (p + 1) (kA 60 K') = setp f p n K' L Z := by
  apply setp_of
  · exact ⟨by rw [zup_ne (by omega), setp_0], zup_same, by rw [zup_ne (by omega), setp_2], by rw [zup_ne (by omega), setp_3]⟩
  · intro j hj; rw [zup_ne (by omega), setp_ne hj]
theorem setp_l : zup (setp f p n K L Z) (p + 2) (kA 60 L') = setp f p n K L' Z := by
  apply setp_of
  · exact ⟨by rw [zup_ne (by omega), setp_0], by rw [zup_ne (by omega), setp_1], zup_same, by rw [zup_ne (by omega), setp_3]⟩
  · intro j hj; rw [zup_ne (by omega), setp_ne hj]
theorem setp_z : zup (setp f p n K L Z) (p + 3) (kA 60 Z') = setp f p n K L Z' := by
  apply setp_of
  · exact ⟨by rw [zup_ne (by omega), setp_0], by rw [zup_ne (by omega), setp_1], by rw [zup_ne (by omega), setp_2], zup_same⟩
  · intro j hj; rw [zup_ne (by omega), setp_ne hj]
theorem setp_n : zup (setp f p n K L Z) p (kO 2 [.ref (p + 1), .ref (p + 2), .ref (p + 3), .int (I n')]) = setp f p n' K L Z := by
  apply setp_of
  · exact ⟨zup_same, by rw [zup_ne (by omega), setp_1], by rw [zup_ne (by omega), setp_2], by rw [zup_ne (by omega), setp_3]⟩
  · intro j hj; rw [zup_ne (by omega), setp_ne hj]
theorem setp_n1 : zup (setp f p n K L Z) p (kO 2 [.ref (p + 1), .ref (p + 2), .ref (p + 3), .int (I ((n : Int) + 1))]) = setp f p (n + 1) K L Z := setp_n (n' := n + 1)
theorem s_X2_becomeLeaf {kd l : Int} (hd : 2 ≤ d) (hp : pat f p n K L Z) (hk : 0 ≤ kd ∧ kd < 7) : zrun zTb d 18 [.ref p, .int (I kd), .int (I l)] f m = some (.inl none, setp f p 1 (zst K 0 kd) (zst L 0 (if kd = 2 then l else 0)) (zst Z 0 1), m) := by
  obtain ⟨d, rfl⟩ : ∃ e, d = e + 1 := ⟨d - 1, by omega⟩
  have e1 := s_X2_becomeNoNodes (d := d) (m := m) (by omega) hp
  have e2 := s_X2_append (d := d) (m := m) (k := kd) (l := l) (z := 1) (by omega) (pat_setp (f := f) (p := p) (n := 0) (K := K) (L := L) (Z := Z)) (by omega) hk
  rw [setp_setp] at e2
  rw [zs_X2_becomeLeaf]
  simp (disch := omega) only [ze_X2_becomeLeaf_0, ze_X2_becomeLeaf_4, ze_X2_becomeLeaf_11, zcal_v, zcal_n, zcalI_n, zco_O, zcf_O, zcs_O, zisc_O, zr8_A, zr8_S, zri_A, zri_B, zri_C, zrl_L, zrd_D, zrs_R, zgi_A, zgi_S, zgi_B, zgi_C, zgl_L, zgd_D, zisa_A, zisa_S, zisa_L, zisa_B, zisa_R, zln_A, zln_S, zln_L, zln_B, zln_R, zwi_A, zwl_L, zwd_D, zclr_i, zclr_r, zclr_l, zclr_d, zclr_n, zok_i, zok_l, zok_b0, zok_b1, I_add, I_sub, I_mul, I_neg, J_add, J_sub, J_mul, J_toI, I_ofNat, zib_I, I_cl, I_J, I_ne2, zup_same, zup_up, zup_ne, zc1_eqB, zc1_neB, zc1_eq, zc1_ne, zc1_lt, zc1_ge, zc1_gt, zc1_le, zc2_eq, zc2_ne, zc2_lt, zc2_ge, zc2_gt, zc2_le, lc_eq, lc_ne, lc_ge, lc_le, lc_gt, lc_lt, zret_b, zret_b0, zret_b1, List.getD_cons_zero, List.getD_cons_succ, List.length_cons, List.length_nil, List.set_cons_zero, List.set_cons_succ, Option.toList, List.cons_append, List.nil_append, Int.cast_ofNat_Int, decide_eq_true_eq, Bool.and_eq_true, and_self, true_and, and_true, if_true, if_false, not_true_eq_false, not_false_eq_true, reduceIte, Nat.reduceAdd, Nat.reduceLT, Nat.reduceLeDiff, Nat.reduceEqDiff, Int.reduceAdd, Int.reduceSub, Int.reduceMul, Int.reduceNeg, Int.reduceLT, Int.reduceLE, Int.reduceEq, Int.reduceToNat, Int.toNat_natCast, Nat.lt_add_one, Nat.zero_lt_succ, hp.1, e1, e2, setp_0]
/-- the places from n on, k of them, taken from b -/
def papp (a b : Nat → Int) (n k : Nat) : Nat → Int := fun j => if n ≤ j ∧ j < n + k then b (j - n) else a j
def pl2 (K L : Nat → Int) : Nat → Int := fun j => if K j = 2 then L j else 0
theorem papp_0 {a b : Nat → Int} : papp a b n 0 = a := by funext j; exact if_neg (by omega)
theorem papp_step {a b : Nat → Int} {i : Nat} : zst (papp a b n i) (n + i) (b i) = papp a b n (i + 1) := by
  funext j
  unfold zst papp
  by_cases h : j = n + i
  · rw [if_pos h, if_pos (by omega), h, Nat.add_sub_cancel_left]
  · rw [if_neg h]
    by_cases h2 : n ≤ j ∧ j < n + i
    · rw [if_pos h2, if_pos (by omega)]
    · rw [if_neg h2, if_neg (by omega)]
theorem l_X2_appendAll (hd : 1 ≤ d) (hq : pat f q k K2 L2 Z2) (hpq : q + 3 < p ∨ p + 3 < q) (hn : n + k ≤ 60) (hK : ∀ i, i < k → 0 ≤ K2 i ∧ K2 i < 7) : ∀ j i : Nat, i + j = k → zex zTb d zqX2_appendAll 2 [.ref p, .ref q, .int (I i)] [] (setp f p (n + i) (papp K K2 n i) (papp L (pl2 K2 L2) n i) (papp Z Z2 n i)) m = some (.inl none, setp f p (n + k) (papp K K2 n k) (papp L (pl2 K2 L2) n k) (papp Z Z2 n k), m) := by
  obtain ⟨q0, q1, q2, q3⟩ := hq
  intro j
  induction j with
  | zero =>
    intro i hi
    obtain rfl : i = k := by omega
    have h1 : ((i : Int) ≤ i) = True := by apply propext; exact ⟨fun _ => trivial, fun _ => by omega⟩
    rw [ze_X2_appendAll_2]
    simp (disch := omega) only [ze_X2_appendAll_0, ze_X2_appendAll_7, ze_X2_appendAll_10, ze_X2_appendAll_15, ze_X2_appendAll_17, ze_X2_appendAll_21, ze_X2_appendAll_23, ze_X2_appendAll_27, ze_X2_appendAll_29, ze_X2_appendAll_32, ze_X2_appendAll_38, zcal_v, zcal_n, zcalI_n, zco_O, zcf_O, zcs_O, zisc_O, zr8_A, zr8_S, zri_A, zri_B, zri_C, zrl_L, zrd_D, zrs_R, zgi_A, zgi_S, zgi_B, zgi_C, zgl_L, zgd_D, zisa_A, zisa_S, zisa_L, zisa_B, zisa_R, zln_A, zln_S, zln_L, zln_B, zln_R, zwi_A, zwl_L, zwd_D, zclr_i, zclr_r, zclr_l, zclr_d, zclr_n, zok_i, zok_l, zok_b0, zok_b1, I_add, I_sub, I_mul, I_neg, J_add, J_sub, J_mul, J_toI, I_ofNat, zib_I, I_cl, I_J, I_ne2, zup_same, zup_up, zup_ne, zc1_eqB, zc1_neB, zc1_eq, zc1_ne, zc1_lt, zc1_ge, zc1_gt, zc1_le, zc2_eq, zc2_ne, zc2_lt, zc2_ge, zc2_gt, zc2_le, lc_eq, lc_ne, lc_ge, lc_le, lc_gt, lc_lt, zret_b, zret_b0, zret_b1, List.getD_cons_zero, List.getD_cons_succ, List.length_cons, List.length_nil, List.set_cons_zero, List.set_cons_succ, Option.toList, List.cons_append, List.nil_append, Int.cast_ofNat_Int, decide_eq_true_eq, Bool.and_eq_true, and_self, true_and, and_true, if_true, if_false, not_true_eq_false, not_false_eq_true, reduceIte, Nat.reduceAdd, Nat.reduceLT, Nat.reduceLeDiff, Nat.reduceEqDiff, Int.reduceAdd, Int.reduceSub, Int.reduceMul, Int.reduceNeg, Int.reduceLT, Int.reduceLE, Int.reduceEq, Int.reduceToNat, Int.toNat_natCast, Nat.lt_add_one, Nat.zero_lt_succ, setp_ne, q0, h1]
  | succ j ih =>
    intro i hi
    have hk := hK i (by omega)
    have h1 : ((k : Int) ≤ i) = False := by apply propext; exact ⟨fun z => by omega, False.elim⟩
    have h2 : (0 ≤ (i : Int) ∧ (i : Int) < 60) = True := by apply propext; exact ⟨fun _ => trivial, fun _ => ⟨by omega, by omega⟩⟩
    have e2 := s_X2_append (d := d) (m := m) (k := K2 i) (l := L2 i) (z := Z2 i) hd (pat_setp (f := f) (p := p) (n := n + i) (K := papp K K2 n i) (L := papp L (pl2 K2 L2) n i) (Z := papp Z Z2 n i)) (by omega) hk
    rw [setp_setp, papp_step, papp_step, show (if K2 i = 2 then L2 i else 0) = pl2 K2 L2 i from rfl, papp_step] at e2
    rw [ze_X2_appendAll_2]
    simp (disch := omega) only [ze_X2_appendAll_0, ze_X2_appendAll_7, ze_X2_appendAll_10, ze_X2_appendAll_15, ze_X2_appendAll_17, ze_X2_appendAll_21, ze_X2_appendAll_23, ze_X2_appendAll_27, ze_X2_appendAll_29, ze_X2_appendAll_32, ze_X2_appendAll_38, zcal_v, zcal_n, zcalI_n, zco_O, zcf_O, zcs_O, zisc_O, zr8_A, zr8_S, zri_A, zri_B, zri_C, zrl_L, zrd_D, zrs_R, zgi_A, zgi_S, zgi_B, zgi_C, zgl_L, zgd_D, zisa_A, zisa_S, zisa_L, zisa_B, zisa_R, zln_A, zln_S, zln_L, zln_B, zln_R, zwi_A, zwl_L, zwd_D, zclr_i, zclr_r, zclr_l, zclr_d, zclr_n, zok_i, zok_l, zok_b0, zok_b1, I_add, I_sub, I_mul, I_neg, J_add, J_sub, J_mul, J_toI, I_ofNat, zib_I, I_cl, I_J, I_ne2, zup_same, zup_up, zup_ne, zc1_eqB, zc1_neB, zc1_eq, zc1_ne, zc1_lt, zc1_ge, zc1_gt, zc1_le, zc2_eq, zc2_ne, zc2_lt, zc2_ge, zc2_gt, zc2_le, lc_eq, lc_ne, lc_ge, lc_le, lc_gt, lc_lt, zret_b, zret_b0, zret_b1, List.getD_cons_zero, List.getD_cons_succ, List.length_cons, List.length_nil, List.set_cons_zero, List.set_cons_succ, Option.toList, List.cons_append, List.nil_append, Int.cast_ofNat_Int, decide_eq_true_eq, Bool.and_eq_true, and_self, true_and, and_true, if_true, if_false, not_true_eq_false, not_false_eq_true, reduceIte, Nat.reduceAdd, Nat.reduceLT, Nat.reduceLeDiff, Nat.reduceEqDiff, Int.reduceAdd, Int.reduceSub, Int.reduceMul, Int.reduceNeg, Int.reduceLT, Int.reduceLE, Int.reduceEq, Int.reduceToNat, Int.toNat_natCast, Nat.lt_add_one, Nat.zero_lt_succ, setp_ne, setp_0, q0, q1, q2, q3, h1, h2, e2]
    exact ih (i + 1) (by omega)
theorem s_X2_appendAll (hd : 2 ≤ d) (hp : pat f p n K L Z) (hq : pat f q k K2 L2 Z2) (hpq : q + 3 < p ∨ p + 3 < q) (hn : n + k ≤ 60) (hK : ∀ i, i < k → 0 ≤ K2 i ∧ K2 i < 7) : zrun zTb d 22 [.ref p, .ref q] f m = some (.inl none, setp f p (n + k) (papp K K2 n k) (papp L (pl2 K2 L2) n k) (papp Z Z2 n k), m) := by
  obtain ⟨d, rfl⟩ : ∃ e, d = e + 1 := ⟨d - 1, by omega⟩
  have := l_X2_appendAll (d := d) (m := m) (p := p) (n := n) (K := K) (L := L) (Z := Z) (by omega) hq hpq hn hK k 0 (by omega)
  rw [papp_0, papp_0, papp_0, Nat.add_zero, setp_self hp] at this
  rw [zs_X2_appendAll]
  simp only [ze_X2_appendAll_0, ze_X2_appendAll_7, ze_X2_appendAll_10, ze_X2_appendAll_15, ze_X2_appendAll_17, ze_X2_appendAll_21, ze_X2_appendAll_23, ze_X2_appendAll_27, ze_X2_appendAll_29, ze_X2_appendAll_32, ze_X2_appendAll_38, zclr_r]
  exact this
theorem s_X2_becomeCopy (hd : 3 ≤ d) (hp : pat f p n K L Z) (hq : pat f q k K2 L2 Z2) (hpq : q + 3 < p ∨ p + 3 < q) (hn : k ≤ 60) (hK : ∀ i, i < k → 0 ≤ K2 i ∧ K2 i < 7) : zrun zTb d 19 [.ref p, .ref q] f m = some (.inl none, setp f p k (papp K K2 0 k) (papp L (pl2 K2 L2) 0 k) (papp Z Z2 0 k), m) := by
  obtain ⟨d, rfl⟩ : ∃ e, d = e + 1 := ⟨d - 1, by omega⟩
  obtain ⟨q0, q1, q2, q3⟩ := hq
  have e1 := s_X2_becomeNoNodes (d := d) (m := m) (by omega) hp
  have e2 := s_X2_appendAll (d := d) (m := m) (q := q) (k := k) (K2 := K2) (L2 := L2) (Z2 := Z2) (by omega) (pat_setp (f := f) (p := p) (n := 0) (K := K) (L := L) (Z := Z)) ⟨by rw [setp_ne (by omega), q0], by rw [setp_ne (by omega), q1], by rw [setp_ne (by omega), q2], by rw [setp_ne (by omega), q3]⟩ hpq (by omega) hK
  rw [setp_setp, Nat.zero_add] at e2
  rw [zs_X2_becomeCopy]
  simp (disch := omega) only [ze_X2_becomeCopy_0, ze_X2_becomeCopy_4, ze_X2_becomeCopy_9, zcal_v, zcal_n, zcalI_n, zco_O, zcf_O, zcs_O, zisc_O, zr8_A, zr8_S, zri_A, zri_B, zri_C, zrl_L, zrd_D, zrs_R, zgi_A, zgi_S, zgi_B, zgi_C, zgl_L, zgd_D, zisa_A, zisa_S, zisa_L, zisa_B, zisa_R, zln_A, zln_S, zln_L, zln_B, zln_R, zwi_A, zwl_L, zwd_D, zclr_i, zclr_r, zclr_l, zclr_d, zclr_n, zok_i, zok_l, zok_b0, zok_b1, I_add, I_sub, I_mul, I_neg, J_add, J_sub, J_mul, J_toI, I_ofNat, zib_I, I_cl, I_J, I_ne2, zup_same, zup_up, zup_ne, zc1_eqB, zc1_neB, zc1_eq, zc1_ne, zc1_lt, zc1_ge, zc1_gt, zc1_le, zc2_eq, zc2_ne, zc2_lt, zc2_ge, zc2_gt, zc2_le, lc_eq, lc_ne, lc_ge, lc_le, lc_gt, lc_lt, zret_b, zret_b0, zret_b1, List.getD_cons_zero, List.getD_cons_succ, List.length_cons, List.length_nil, List.set_cons_zero, List.set_cons_succ, Option.toList, List.cons_append, List.nil_append, Int.cast_ofNat_Int, decide_eq_true_eq, Bool.and_eq_true, and_self, true_and, and_true, if_true, if_false, not_true_eq_false, not_false_eq_true, reduceIte, Nat.reduceAdd, Nat.reduceLT, Nat.reduceLeDiff, Nat.reduceEqDiff, Int.reduceAdd, Int.reduceSub, Int.reduceMul, Int.reduceNeg, Int.reduceLT, Int.reduceLE, Int.reduceEq, Int.reduceToNat, Int.toNat_natCast, Nat.lt_add_one, Nat.zero_lt_succ, hp.1, e1, e2, setp_0]
theorem l_X2_makeRoomAhead (hn : n < 60) : ∀ i : Nat, i ≤ n → zex zTb d zqX2_makeRoomAhead 5 [.ref p, .int (I i)] [] (setp f p n (psh K n i) (psh L n i) (psh Z n i)) m = some (.inl none, setp f p (n + 1) (psh K n 0) (zst (psh L n 0) 0 0) (psh Z n 0), m) := by
  intro i
  induction i with
  | zero =>
    intro _
    rw [ze_X2_makeRoomAhead_5]
    simp (disch := omega) only [ze_X2_makeRoomAhead_0, ze_X2_makeRoomAhead_4, ze_X2_makeRoomAhead_9, ze_X2_makeRoomAhead_14, ze_X2_makeRoomAhead_15, ze_X2_makeRoomAhead_18, ze_X2_makeRoomAhead_22, ze_X2_makeRoomAhead_27, ze_X2_makeRoomAhead_31, ze_X2_makeRoomAhead_32, ze_X2_makeRoomAhead_36, ze_X2_makeRoomAhead_41, ze_X2_makeRoomAhead_45, ze_X2_makeRoomAhead_46, ze_X2_makeRoomAhead_50, ze_X2_makeRoomAhead_55, ze_X2_makeRoomAhead_59, ze_X2_makeRoomAhead_60, ze_X2_makeRoomAhead_66, ze_X2_makeRoomAhead_70, ze_X2_makeRoomAhead_73, ze_X2_makeRoomAhead_78, ze_X2_makeRoomAhead_83, zcal_v, zcal_n, zcalI_n, zco_O, zcf_O, zcs_O, zisc_O, zr8_A, zr8_S, zri_A, zri_B, zri_C, zrl_L, zrd_D, zrs_R, zgi_A, zgi_S, zgi_B, zgi_C, zgl_L, zgd_D, zisa_A, zisa_S, zisa_L, zisa_B, zisa_R, zln_A, zln_S, zln_L, zln_B, zln_R, zwi_A, zwl_L, zwd_D, zclr_i, zclr_r, zclr_l, zclr_d, zclr_n, zok_i, zok_l, zok_b0, zok_b1, I_add, I_sub, I_mul, I_neg, J_add, J_sub, J_mul, J_toI, I_ofNat, zib_I, I_cl, I_J, I_ne2, zup_same, zup_up, zup_ne, zc1_eqB, zc1_neB, zc1_eq, zc1_ne, zc1_lt, zc1_ge, zc1_gt, zc1_le, zc2_eq, zc2_ne, zc2_lt, zc2_ge, zc2_gt, zc2_le, lc_eq, lc_ne, lc_ge, lc_le, lc_gt, lc_lt, zret_b, zret_b0, zret_b1, List.getD_cons_zero, List.getD_cons_succ, List.length_cons, List.length_nil, List.set_cons_zero, List.set_cons_succ, Option.toList, List.cons_append, List.nil_append, Int.cast_ofNat_Int, decide_eq_true_eq, Bool.and_eq_true, and_self, true_and, and_true, if_true, if_false, not_true_eq_false, not_false_eq_true, reduceIte, Nat.reduceAdd, Nat.reduceLT, Nat.reduceLeDiff, Nat.reduceEqDiff, Int.reduceAdd, Int.reduceSub, Int.reduceMul, Int.reduceNeg, Int.reduceLT, Int.reduceLE, Int.reduceEq, Int.reduceToNat, Int.toNat_natCast, Nat.lt_add_one, Nat.zero_lt_succ, setp_0, setp_1, setp_2, setp_3, setp_k, setp_l, setp_z, setp_n1, zfty_2_3]
  | succ i ih =>
    intro hi
    have h1 : (((i + 1 : Nat) : Int) ≤ 0) = False := by apply propext; exact ⟨fun z => by omega, False.elim⟩
    have h7 : (60 ≤ ((i + 1 : Nat) : Int)) = False := by apply propext; exact ⟨fun z => by omega, False.elim⟩
    have h2 : (0 ≤ ((i + 1 : Nat) : Int) ∧ ((i + 1 : Nat) : Int) < 60) = True := by apply propext; exact ⟨fun _ => trivial, fun _ => ⟨by omega, by omega⟩⟩
    have h3 : ((i + 1 : Nat) : Int) - 1 = i := by omega
    have h5 : ((i + 1 : Nat) : Int) + -1 = i := by omega
    have h4 : (0 ≤ (i : Int) ∧ (i : Int) < 60) = True := by apply propext; exact ⟨fun _ => trivial, fun _ => ⟨by omega, by omega⟩⟩
    have h6 : (((i + 1 : Nat) : Int)).toNat = i + 1 := rfl
    rw [ze_X2_makeRoomAhead_5]
    simp (disch := omega) only [ze_X2_makeRoomAhead_0, ze_X2_makeRoomAhead_4, ze_X2_makeRoomAhead_9, ze_X2_makeRoomAhead_14, ze_X2_makeRoomAhead_15, ze_X2_makeRoomAhead_18, ze_X2_makeRoomAhead_22, ze_X2_makeRoomAhead_27, ze_X2_makeRoomAhead_31, ze_X2_makeRoomAhead_32, ze_X2_makeRoomAhead_36, ze_X2_makeRoomAhead_41, ze_X2_makeRoomAhead_45, ze_X2_makeRoomAhead_46, ze_X2_makeRoomAhead_50, ze_X2_makeRoomAhead_55, ze_X2_makeRoomAhead_59, ze_X2_makeRoomAhead_60, ze_X2_makeRoomAhead_66, ze_X2_makeRoomAhead_70, ze_X2_makeRoomAhead_73, ze_X2_makeRoomAhead_78, ze_X2_makeRoomAhead_83, zcal_v, zcal_n, zcalI_n, zco_O, zcf_O, zcs_O, zisc_O, zr8_A, zr8_S, zri_A, zri_B, zri_C, zrl_L, zrd_D, zrs_R, zgi_A, zgi_S, zgi_B, zgi_C, zgl_L, zgd_D, zisa_A, zisa_S, zisa_L, zisa_B, zisa_R, zln_A, zln_S, zln_L, zln_B, zln_R, zwi_A, zwl_L, zwd_D, zclr_i, zclr_r, zclr_l, zclr_d, zclr_n, zok_i, zok_l, zok_b0, zok_b1, I_add, I_sub, I_mul, I_neg, J_add, J_sub, J_mul, J_toI, I_ofNat, zib_I, I_cl, I_J, I_ne2, zup_same, zup_up, zup_ne, zc1_eqB, zc1_neB, zc1_eq, zc1_ne, zc1_lt, zc1_ge, zc1_gt, zc1_le, zc2_eq, zc2_ne, zc2_lt, zc2_ge, zc2_gt, zc2_le, lc_eq, lc_ne, lc_ge, lc_le, lc_gt, lc_lt, zret_b, zret_b0, zret_b1, List.getD_cons_zero, List.getD_cons_succ, List.length_cons, List.length_nil, List.set_cons_zero, List.set_cons_succ, Option.toList, List.cons_append, List.nil_append, Int.cast_ofNat_Int, decide_eq_true_eq, Bool.and_eq_true, and_self, true_and, and_true, if_true, if_false, not_true_eq_false, not_false_eq_true, reduceIte, Nat.reduceAdd, Nat.reduceLT, Nat.reduceLeDiff, Nat.reduceEqDiff, Int.reduceAdd, Int.reduceSub, Int.reduceMul, Int.reduceNeg, Int.reduceLT, Int.reduceLE, Int.reduceEq, Int.reduceToNat, Int.toNat_natCast, Nat.lt_add_one, Nat.zero_lt_succ, setp_0, setp_1, setp_2, setp_3, setp_k, setp_l, setp_z, psh_step, h1, h2, h3, h4, h5, h6, h7]
    exact ih (by omega)
theorem s_X2_makeRoomAhead (hd : 1 ≤ d) (hp : pat f p n K L Z) (hn : n < 60) : zrun zTb d 23 [.ref p] f m = some (.inl none, setp f p (n + 1) (psh K n 0) (zst (psh L n 0) 0 0) (psh Z n 0), m) := by
  obtain ⟨d, rfl⟩ : ∃ e, d = e + 1 := ⟨d - 1, by omega⟩
  have := l_X2_makeRoomAhead (d := d) (f := f) (m := m) (p := p) (n := n) (K := K) (L := L) (Z := Z) hn n (by omega)
  rw [psh_n, psh_n, psh_n, setp_self hp] at this
  rw [zs_X2_makeRoomAhead]
  simp (disch := omega) only [ze_X2_makeRoomAhead_0, ze_X2_makeRoomAhead_4, ze_X2_makeRoomAhead_9, ze_X2_makeRoomAhead_14, ze_X2_makeRoomAhead_15, ze_X2_makeRoomAhead_18, ze_X2_makeRoomAhead_22, ze_X2_makeRoomAhead_27, ze_X2_makeRoomAhead_31, ze_X2_makeRoomAhead_32, ze_X2_makeRoomAhead_36, ze_X2_makeRoomAhead_41, ze_X2_makeRoomAhead_45, ze_X2_makeRoomAhead_46, ze_X2_makeRoomAhead_50, ze_X2_makeRoomAhead_55, ze_X2_makeRoomAhead_59, ze_X2_makeRoomAhead_60, ze_X2_makeRoomAhead_66, ze_X2_makeRoomAhead_70, ze_X2_makeRoomAhead_73, ze_X2_makeRoomAhead_78, ze_X2_makeRoomAhead_83, zcal_v, zcal_n, zcalI_n, zco_O, zcf_O, zcs_O, zisc_O, zr8_A, zr8_S, zri_A, zri_B, zri_C, zrl_L, zrd_D, zrs_R, zgi_A, zgi_S, zgi_B, zgi_C, zgl_L, zgd_D, zisa_A, zisa_S, zisa_L, zisa_B, zisa_R, zln_A, zln_S, zln_L, zln_B, zln_R, zwi_A, zwl_L, zwd_D, zclr_i, zclr_r, zclr_l, zclr_d, zclr_n, zok_i, zok_l, zok_b0, zok_b1, I_add, I_sub, I_mul, I_neg, J_add, J_sub, J_mul, J_toI, I_ofNat, zib_I, I_cl, I_J, I_ne2, zup_same, zup_up, zup_ne, zc1_eqB, zc1_neB, zc1_eq, zc1_ne, zc1_lt, zc1_ge, zc1_gt, zc1_le, zc2_eq, zc2_ne, zc2_lt, zc2_ge, zc2_gt, zc2_le, lc_eq, lc_ne, lc_ge, lc_le, lc_gt, lc_lt, zret_b, zret_b0, zret_b1, List.getD_cons_zero, List.getD_cons_succ, List.length_cons, List.length_nil, List.set_cons_zero, List.set_cons_succ, Option.toList, List.cons_append, List.nil_append, Int.cast_ofNat_Int, decide_eq_true_eq, Bool.and_eq_true, and_self, true_and, and_true, if_true, if_false, not_true_eq_false, not_false_eq_true, reduceIte, Nat.reduceAdd, Nat.reduceLT, Nat.reduceLeDiff, Nat.reduceEqDiff, Int.reduceAdd, Int.reduceSub, Int.reduceMul, Int.reduceNeg, Int.reduceLT, Int.reduceLE, Int.reduceEq, Int.reduceToNat, Int.toNat_natCast, Nat.lt_add_one, Nat.zero_lt_succ, hp.1]
  exact this
theorem s_X2_becomeWrapped {kd : Int} (hd : 2 ≤ d) (hp : pat f p n K L Z) (hn : n < 60) : zrun zTb d 20 [.ref p, .int (I kd)] f m = some (.inl none, setp f p (n + 1) (zst (psh K n 0) 0 kd) (zst (psh L n 0) 0 0) (zst (psh Z n 0) 0 ((n + 1 : Nat) : Int)), m) := by
  obtain ⟨d, rfl⟩ : ∃ e, d = e + 1 := ⟨d - 1, by omega⟩
  have e1 := s_X2_makeRoomAhead (d := d) (m := m) (by omega) hp hn
  have h1 : (60 ≤ (n : Int)) = False := by apply propext; exact ⟨fun z => by omega, False.elim⟩
  rw [zs_X2_becomeWrapped]
  simp (disch := omega) only [ze_X2_becomeWrapped_0, ze_X2_becomeWrapped_4, ze_X2_becomeWrapped_8, ze_X2_becomeWrapped_9, ze_X2_becomeWrapped_12, ze_X2_becomeWrapped_16, ze_X2_becomeWrapped_20, ze_X2_becomeWrapped_23, ze_X2_becomeWrapped_27, ze_X2_becomeWrapped_32, ze_X2_becomeWrapped_33, zcal_v, zcal_n, zcalI_n, zco_O, zcf_O, zcs_O, zisc_O, zr8_A, zr8_S, zri_A, zri_B, zri_C, zrl_L, zrd_D, zrs_R, zgi_A, zgi_S, zgi_B, zgi_C, zgl_L, zgd_D, zisa_A, zisa_S, zisa_L, zisa_B, zisa_R, zln_A, zln_S, zln_L, zln_B, zln_R, zwi_A, zwl_L, zwd_D, zclr_i, zclr_r, zclr_l, zclr_d, zclr_n, zok_i, zok_l, zok_b0, zok_b1, I_add, I_sub, I_mul, I_neg, J_add, J_sub, J_mul, J_toI, I_ofNat, zib_I, I_cl, I_J, I_ne2, zup_same, zup_up, zup_ne, zc1_eqB, zc1_neB, zc1_eq, zc1_ne, zc1_lt, zc1_ge, zc1_gt, zc1_le, zc2_eq, zc2_ne, zc2_lt, zc2_ge, zc2_gt, zc2_le, lc_eq, lc_ne, lc_ge, lc_le, lc_gt, lc_lt, zret_b, zret_b0, zret_b1, List.getD_cons_zero, List.getD_cons_succ, List.length_cons, List.length_nil, List.set_cons_zero, List.set_cons_succ, Option.toList, List.cons_append, List.nil_append, Int.cast_ofNat_Int, decide_eq_true_eq, Bool.and_eq_true, and_self, true_and, and_true, if_true, if_false, not_true_eq_false, not_false_eq_true, reduceIte, Nat.reduceAdd, Nat.reduceLT, Nat.reduceLeDiff, Nat.reduceEqDiff, Int.reduceAdd, Int.reduceSub, Int.reduceMul, Int.reduceNeg, Int.reduceLT, Int.reduceLE, Int.reduceEq, Int.reduceToNat, Int.toNat_natCast, Nat.lt_add_one, Nat.zero_lt_succ, hp.1, hp.2.1, h1, e1, setp_0, setp_1, setp_2, setp_3, setp_k, setp_l, setp_z]
theorem s_X2_becomeJoined {kd : Int} (hd : 3 ≤ d) (hp : pat f p n K L Z) (hq : pat f q k K2 L2 Z2) (hpq : q + 3 < p ∨ p + 3 < q) (hn : n + k < 60) (hK : ∀ i, i < k → 0 ≤ K2 i ∧ K2 i < 7) : zrun zTb d 21 [.ref p, .int (I kd), .ref q] f m = some (.inl none, setp f p (n + 1 + k) (zst (papp (psh K n 0) K2 (n + 1) k) 0 kd) (papp (zst (psh L n 0) 0 0) (pl2 K2 L2) (n + 1) k) (zst (papp (psh Z n 0) Z2 (n + 1) k) 0 ((n + 1 + k : Nat) : Int)), m) := by
  obtain ⟨d, rfl⟩ : ∃ e, d = e + 1 := ⟨d - 1, by omega⟩
  obtain ⟨q0, q1, q2, q3⟩ := hq
  have e1 := s_X2_makeRoomAhead (d := d) (m := m) (by omega) hp (by omega)
  have e2 := s_X2_appendAll (d := d) (m := m) (q := q) (k := k) (K2 := K2) (L2 := L2) (Z2 := Z2) (by omega) (pat_setp (f := f) (p := p) (n := n + 1) (K := psh K n 0) (L := zst (psh L n 0) 0 0) (Z := psh Z n 0)) ⟨by rw [setp_ne (by omega), q0], by rw [setp_ne (by omega), q1], by rw [setp_ne (by omega), q2], by rw [setp_ne (by omega), q3]⟩ hpq (by omega) hK
  rw [setp_setp] at e2
  have h1 : (60 ≤ (n : Int) + k) = False := by apply propext; exact ⟨fun z => by omega, False.elim⟩
  rw [zs_X2_becomeJoined]
  simp (disch := omega) only [ze_X2_becomeJoined_0, ze_X2_becomeJoined_4, ze_X2_becomeJoined_8, ze_X2_becomeJoined_13, ze_X2_becomeJoined_14, ze_X2_becomeJoined_17, ze_X2_becomeJoined_21, ze_X2_becomeJoined_26, ze_X2_becomeJoined_30, ze_X2_becomeJoined_33, ze_X2_becomeJoined_37, ze_X2_becomeJoined_42, ze_X2_becomeJoined_43, zcal_v, zcal_n, zcalI_n, zco_O, zcf_O, zcs_O, zisc_O, zr8_A, zr8_S, zri_A, zri_B, zri_C, zrl_L, zrd_D, zrs_R, zgi_A, zgi_S, zgi_B, zgi_C, zgl_L, zgd_D, zisa_A, zisa_S, zisa_L, zisa_B, zisa_R, zln_A, zln_S, zln_L, zln_B, zln_R, zwi_A, zwl_L, zwd_D, zclr_i, zclr_r, zclr_l, zclr_d, zclr_n, zok_i, zok_l, zok_b0, zok_b1, I_add, I_sub, I_mul, I_neg, J_add, J_sub, J_mul, J_toI, I_ofNat, zib_I, I_cl, I_J, I_ne2, zup_same, zup_up, zup_ne, zc1_eqB, zc1_neB, zc1_eq, zc1_ne, zc1_lt, zc1_ge, zc1_gt, zc1_le, zc2_eq, zc2_ne, zc2_lt, zc2_ge, zc2_gt, zc2_le, lc_eq, lc_ne, lc_ge, lc_le, lc_gt, lc_lt, zret_b, zret_b0, zret_b1, List.getD_cons_zero, List.getD_cons_succ, List.length_cons, List.length_nil, List.set_cons_zero, List.set_cons_succ, Option.toList, List.cons_append, List.nil_append, Int.cast_ofNat_Int, decide_eq_true_eq, Bool.and_eq_true, and_self, true_and, and_true, if_true, if_false, not_true_eq_false, not_false_eq_true, reduceIte, Nat.reduceAdd, Nat.reduceLT, Nat.reduceLeDiff, Nat.reduceEqDiff, Int.reduceAdd, Int.reduceSub, Int.reduceMul, Int.reduceNeg, Int.reduceLT, Int.reduceLE, Int.reduceEq, Int.reduceToNat, Int.toNat_natCast, Nat.lt_add_one, Nat.zero_lt_succ, hp.1, hp.2.1, q0, h1, e1, e2, setp_0, setp_1, setp_2, setp_3, setp_k, setp_l, setp_z]
end
