/-! SPECS: places of words among the pieces; cuts -/
theorem wsl_wsl {l : List Nat} {a b c e : Nat} (hab : a ≤ b) (he : e ≤ b - a) : wsl (wsl l a b) c e = wsl l (a + c) (a + e) := by
  unfold wsl
  rw [← List.drop_drop, List.take_drop, List.take_take, Nat.min_eq_left (by omega)]
def fcl (P : Nat → List Nat) (np : Nat) : Prop := ∀ i, i < np → ∀ a b, a ≤ b → b ≤ (P i).length → pmem P np (wsl (P i) a b)
theorem PC_fcl {n np : Nat} {X P : Nat → List Nat} (h : PC n X P np) : fcl P np := by
  intro i hi a b hab hb
  apply (h.2.2 _).mpr
  rcases (h.2.2 (P i)).mp ⟨i, hi, rfl⟩ with h1 | ⟨k, hk, a1, b1, h1, h2, h3⟩
  · rw [h1] at hb
    have : b = 0 := by have : ([] : List Nat).length = 0 := rfl
                       omega
    subst this
    rw [h1]
    exact Or.inl (by unfold wsl; simp)
  · rw [h3] at hb ⊢
    rw [wsl_len h2] at hb
    rw [wsl_wsl (by omega) hb]
    by_cases he : a = b
    · subst he
      exact Or.inl (wsl_self (by omega))
    · exact Or.inr ⟨k, hk, a1 + a, a1 + b, by omega, by omega, rfl⟩
theorem PC_nil {n np : Nat} {X P : Nat → List Nat} (h : PC n X P np) : 1 ≤ np ∧ P 0 = [] := by
  obtain ⟨i, hi, h1⟩ := (h.2.2 []).mpr (Or.inl rfl)
  refine ⟨by omega, ?_⟩
  rcases Nat.eq_zero_or_pos i with h2 | h2
  · subst h2; exact h1
  · have := h.1 0 i h2 hi
    rw [h1] at this
    exact absurd this (Nat.not_lt_zero _)
theorem spc_inj {P : Nat → List Nat} {n i j : Nat} (h : spc P n) (hi : i < n) (hj : j < n) (e : P i = P j) : i = j := by
  rcases Nat.lt_trichotomy i j with h1 | h1 | h1
  · have := h i j h1 hj; rw [e] at this; omega
  · exact h1
  · have := h j i h1 hi; rw [e] at this; omega
/-- the cuts that D tells -/
def CUD (f : zF) (P : Nat → List Nat) (np cn : Nat) (D : Nat → Nat → Prop) : Prop := ∃ FR BK WH : Nat → Nat, f 141 = some (kO 0 [.ref 142, .ref 143, .ref 144, .int (I cn)]) ∧ f 142 = some (kA 420 (fun c => (FR c : Int))) ∧ f 143 = some (kA 420 (fun c => (BK c : Int))) ∧ f 144 = some (kA 420 (fun c => (WH c : Int))) ∧ (∀ c, c < cn → FR c < np ∧ BK c < np ∧ WH c < np ∧ ∃ s, D (WH c) s ∧ s ≤ (P (WH c)).length ∧ P (FR c) = wsl (P (WH c)) 0 s ∧ P (BK c) = wsl (P (WH c)) s (P (WH c)).length) ∧ ∀ w s, D w s → w < np → s ≤ (P w).length → ∃ c, c < cn ∧ WH c = w ∧ P (FR c) = wsl (P w) 0 s ∧ P (BK c) = wsl (P w) s (P w).length
def CUW (f : zF) : Prop := ∃ (FR BK WH : Nat → Nat) (cn : Int), f 141 = some (kO 0 [.ref 142, .ref 143, .ref 144, .int (I cn)]) ∧ f 142 = some (kA 420 (fun c => (FR c : Int))) ∧ f 143 = some (kA 420 (fun c => (BK c : Int))) ∧ f 144 = some (kA 420 (fun c => (WH c : Int)))
section
variable {d p n np k cn : Nat} {f : zF} {m : zM} {P : Nat → List Nat} {w l : List Nat}
theorem s_place (hd : 2 ≤ d) (h : pcs f p P n) (hw : wgood w ∧ w.length ≤ 6) : (∃ i, i < n ∧ P i = w ∧ zrun zTb d 31 [.ref p, .long (J (wpk w))] f m = some (.inl (some (.int (I i))), f, m)) ∨ (¬ pmem P n w ∧ zrun zTb d 31 [.ref p, .long (J (wpk w))] f m = some (.inl (some (.int (I (-1)))), f, m)) := by
  obtain ⟨a, h1, h2, h3, h4, h5, h6⟩ := h
  obtain ⟨r, r1, r2, r3⟩ := spc_place (x := wpk w) n h5
  have hx := wpk_48 hw.1 hw.2
  have hr : psp a n ((wpk w : Nat) : Int) r := ⟨r1, fun i hi => by rw [h3 i (by omega)]; have := r2 i hi; omega, fun i hi hi2 => by rw [h3 i hi2]; have := r3 i hi hi2; omega⟩
  have e := s_X3_placeOf (d := d) (f := f) (m := m) hd h1 h2 h4 (pcs_prg h3 h6) (by omega) hr
  by_cases hc : r < n ∧ a r = ((wpk w : Nat) : Int)
  · rw [if_pos hc] at e
    refine Or.inl ⟨r, hc.1, wpk_inj (h6 r hc.1).1 hw.1 ?_, e⟩
    have := hc.2
    rw [h3 r hc.1] at this
    omega
  · rw [if_neg hc] at e
    refine Or.inr ⟨?_, e⟩
    rintro ⟨i, hi, rfl⟩
    rcases Nat.lt_trichotomy i r with h9 | h9 | h9
    · have := r2 i h9; omega
    · subst h9; exact hc ⟨hi, h3 i hi⟩
    · have h10 := r3 r (Nat.le_refl _) (by omega)
      have h11 := h5 r i h9 hi
      omega
theorem s_placeM (hd : 2 ≤ d) (h : pcs f p P n) (hw : wgood w ∧ w.length ≤ 6) (hm : pmem P n w) : ∃ i, i < n ∧ P i = w ∧ zrun zTb d 31 [.ref p, .long (J (wpk w))] f m = some (.inl (some (.int (I i))), f, m) := by
  rcases s_place (m := m) hd h hw with h1 | ⟨h1, -⟩
  · exact h1
  · exact absurd hm h1
theorem s_cutapp (hd : 1 ≤ d) {FR BK WH : Nat → Nat} {a b c : Nat} (h1 : f 141 = some (kO 0 [.ref 142, .ref 143, .ref 144, .int (I cn)])) (h2 : f 142 = some (kA 420 (fun c => (FR c : Int)))) (h3 : f 143 = some (kA 420 (fun c => (BK c : Int)))) (h4 : f 144 = some (kA 420 (fun c => (WH c : Int)))) (hcn : cn < 420) (ha : a < 60) (hb : b < 60) (hc : c < 60) : zrun zTb d 2 [.ref 141, .int (I a), .int (I b), .int (I c)] f m = some (.inl none, zup (zup (zup (zup f 142 (kA 420 (fun x => ((zst FR cn a x : Nat) : Int)))) 143 (kA 420 (fun x => ((zst BK cn b x : Nat) : Int)))) 144 (kA 420 (fun x => ((zst WH cn c x : Nat) : Int)))) 141 (kO 0 [.ref 142, .ref 143, .ref 144, .int (I (cn + 1 : Nat))]), m) := by
  obtain ⟨d, rfl⟩ : ∃ e, d = e + 1 := ⟨d - 1, by omega⟩
  have key : ∀ (F : Nat → Nat) (a : Nat), zst (fun c => (F c : Int)) cn (a : Int) = fun x => ((zst F cn a x : Nat) : Int) := by
    intro F a
    funext x
    unfold zst
    split <;> rfl
  rw [zs_X0_append]
  simp (disch := omega) only [ze_X0_append_0, ze_X0_append_4, ze_X0_append_7, ze_X0_append_11, ze_X0_append_15, ze_X0_append_16, ze_X0_append_19, ze_X0_append_23, ze_X0_append_27, ze_X0_append_31, ze_X0_append_35, ze_X0_append_37, ze_X0_append_41, ze_X0_append_45, ze_X0_append_47, ze_X0_append_51, ze_X0_append_55, ze_X0_append_57, ze_X0_append_62, ze_X0_append_67, zcal_x, zfh_nil, zfh_cons, zset_0, zset_1, zset_s, zcal_v, zcal_n, zcalI_n, zco_O, zcf_O, zcs_O, zisc_O, zr8_A, zr8_S, zri_A, zri_B, zri_C, zrl_L, zrd_D, zrs_R, zgi_A, zgi_S, zgi_B, zgi_C, zgl_L, zgd_D, zisa_A, zisa_S, zisa_L, zisa_B, zisa_R, zln_A, zln_S, zln_L, zln_B, zln_R, zwi_A, zwl_L, zwd_D, zclr_i, zclr_r, zclr_l, zclr_d, zclr_n, zok_i, zok_l, zok_b0, zok_b1, I_add, I_sub, I_mul, I_neg, J_add, J_sub, J_mul, J_toI, I_ofNat, I_cl, I_J, I_ne2, zup_same, zup_up, zup_ne, zc1_eqB, zc1_neB, zret_b, zret_b0, zret_b1, List.getD_cons_zero, List.getD_cons_succ, List.length_cons, List.length_nil, List.set_cons_zero, List.set_cons_succ, Option.toList, List.cons_append, List.nil_append, Int.cast_ofNat_Int, decide_eq_true_eq, Bool.and_eq_true, and_self, true_and, and_true, if_true, if_false, not_true_eq_false, not_false_eq_true, ↓reduceIte, Nat.reduceAdd, Nat.reduceLT, Nat.reduceLeDiff, Nat.reduceEqDiff, Int.reduceAdd, Int.reduceSub, Int.reduceMul, Int.reduceNeg, Int.reduceLT, Int.reduceLE, Int.reduceEq, Int.reduceToNat, Int.toNat_natCast, Nat.lt_add_one, Nat.zero_lt_succ, q1_eq_t, q1_eq_f, q2_eq_t, q2_eq_f, ql_eq_t, ql_eq_f, q1_ne_t, q1_ne_f, q2_ne_t, q2_ne_f, ql_ne_t, ql_ne_f, q1_lt_t, q1_lt_f, q2_lt_t, q2_lt_f, ql_lt_t, ql_lt_f, q1_ge_t, q1_ge_f, q2_ge_t, q2_ge_f, ql_ge_t, ql_ge_f, q1_gt_t, q1_gt_f, q2_gt_t, q2_gt_f, ql_gt_t, ql_gt_f, q1_le_t, q1_le_f, q2_le_t, q2_le_f, ql_le_t, ql_le_f, zib_t, qb_t, qb_f, nk_add, nk_mul, nk_sub, nk_d1, nk_d0, nk_toNat, nk_r1, nk_l1, nk_m1, nk_n1, nk_s1, nk_t1, nk_r2, nk_l2, nk_m2, nk_n2, nk_s2, nk_t2, nk_r3, nk_l3, nk_m3, nk_n3, nk_s3, nk_t3, nk_r4, nk_l4, nk_m4, nk_n4, nk_s4, nk_t4, nk_r6, nk_l6, nk_m6, nk_n6, nk_s6, nk_t6, nk_r7, nk_l7, nk_m7, nk_n7, nk_s7, nk_t7, nk_r8, nk_l8, nk_m8, nk_n8, nk_s8, nk_t8, nk_r12, nk_l12, nk_m12, nk_n12, nk_s12, nk_t12, nk_r31, nk_l31, nk_m31, nk_n31, nk_s31, nk_t31, nk_r32, nk_l32, nk_m32, nk_n32, nk_s32, nk_t32, nk_r59, nk_l59, nk_m59, nk_n59, nk_s59, nk_t59, nk_r60, nk_l60, nk_m60, nk_n60, nk_s60, nk_t60, nk_r96, nk_l96, nk_m96, nk_n96, nk_s96, nk_t96, nk_r97, nk_l97, nk_m97, nk_n97, nk_s97, nk_t97, nk_r120, nk_l120, nk_m120, nk_n120, nk_s120, nk_t120, nk_r240, nk_l240, nk_m240, nk_n240, nk_s240, nk_t240, nk_r255, nk_l255, nk_m255, nk_n255, nk_s255, nk_t255, nk_r256, nk_l256, nk_m256, nk_n256, nk_s256, nk_t256, Nat.add_zero, Nat.zero_add, Nat.mul_one, Nat.one_mul, Nat.mul_zero, Nat.zero_mul, Nat.sub_zero, Nat.reduceSub, Nat.reduceMul, Nat.add_sub_cancel, Bool.false_eq_true, Int.add_zero, Int.zero_add, Int.sub_zero, h1, h2, h3, h4, key, zfty_0_3]
theorem cr_in (hd : 4 ≤ d) (hp : p + 1 < 141) (hk : k < np) (hfcl : fcl P np) : ∀ (j s cn : Nat) (x : Int) (f : zF) (a6 a7 : Value), s + j = (P k).length + 1 → x = ((P k).length : Int) - s → cn ≤ 7 * k + s → pcs f p P np → CUD f P np cn (fun w s' => w < k ∨ (w = k ∧ s' < s)) → ∃ (f' : zF) (cn' : Nat) (a5 a6' a7' : Value), zex zTb d zqX0_read 28 [.ref 141, .ref p, .int (I k), .long (J (wpk (P k))), .null, .int (I x), a6, a7] [] f m = zex zTb d zqX0_read 7 [.ref 141, .ref p, .int (I (k + 1 : Nat)), .long (J (wpk (P k))), .null, a5, a6', a7'] [] f' m ∧ cn' ≤ 7 * (k + 1) ∧ fre 141 144 f f' ∧ CUD f' P np cn' (fun w s' => w < k + 1) := by
  intro j
  induction j with
  | zero =>
    intro s cn x f a6 a7 hs hx hcn hpc hcu
    have hok := hpc
    obtain ⟨a, h1, h2, h3, h4, h5, h6⟩ := hpc
    have hlen := (h6 k hk).2
    obtain rfl : x = -1 := by omega
    refine ⟨f, cn, .int (I (-1)), a6, a7, ?_, by omega, fre_refl, ?_⟩
    · rw [ze_X0_read_28]
      simp (disch := omega) only [ze_X0_read_0, ze_X0_read_5, ze_X0_read_12, ze_X0_read_15, ze_X0_read_19, ze_X0_read_21, ze_X0_read_26, ze_X0_read_33, ze_X0_read_44, ze_X0_read_53, ze_X0_read_56, ze_X0_read_67, ze_X0_read_73, ze_X0_read_79, zcal_x, zfh_nil, zfh_cons, zset_0, zset_1, zset_s, zcal_v, zcal_n, zcalI_n, zco_O, zcf_O, zcs_O, zisc_O, zr8_A, zr8_S, zri_A, zri_B, zri_C, zrl_L, zrd_D, zrs_R, zgi_A, zgi_S, zgi_B, zgi_C, zgl_L, zgd_D, zisa_A, zisa_S, zisa_L, zisa_B, zisa_R, zln_A, zln_S, zln_L, zln_B, zln_R, zwi_A, zwl_L, zwd_D, zclr_i, zclr_r, zclr_l, zclr_d, zclr_n, zok_i, zok_l, zok_b0, zok_b1, I_add, I_sub, I_mul, I_neg, J_add, J_sub, J_mul, J_toI, I_ofNat, I_cl, I_J, I_ne2, zup_same, zup_up, zup_ne, zc1_eqB, zc1_neB, zret_b, zret_b0, zret_b1, List.getD_cons_zero, List.getD_cons_succ, List.length_cons, List.length_nil, List.set_cons_zero, List.set_cons_succ, Option.toList, List.cons_append, List.nil_append, Int.cast_ofNat_Int, decide_eq_true_eq, Bool.and_eq_true, and_self, true_and, and_true, if_true, if_false, not_true_eq_false, not_false_eq_true, ↓reduceIte, Nat.reduceAdd, Nat.reduceLT, Nat.reduceLeDiff, Nat.reduceEqDiff, Int.reduceAdd, Int.reduceSub, Int.reduceMul, Int.reduceNeg, Int.reduceLT, Int.reduceLE, Int.reduceEq, Int.reduceToNat, Int.toNat_natCast, Nat.lt_add_one, Nat.zero_lt_succ, q1_eq_t, q1_eq_f, q2_eq_t, q2_eq_f, ql_eq_t, ql_eq_f, q1_ne_t, q1_ne_f, q2_ne_t, q2_ne_f, ql_ne_t, ql_ne_f, q1_lt_t, q1_lt_f, q2_lt_t, q2_lt_f, ql_lt_t, ql_lt_f, q1_ge_t, q1_ge_f, q2_ge_t, q2_ge_f, ql_ge_t, ql_ge_f, q1_gt_t, q1_gt_f, q2_gt_t, q2_gt_f, ql_gt_t, ql_gt_f, q1_le_t, q1_le_f, q2_le_t, q2_le_f, ql_le_t, ql_le_f, zib_t, qb_t, qb_f, nk_add, nk_mul, nk_sub, nk_d1, nk_d0, nk_toNat, nk_r1, nk_l1, nk_m1, nk_n1, nk_s1, nk_t1, nk_r2, nk_l2, nk_m2, nk_n2, nk_s2, nk_t2, nk_r3, nk_l3, nk_m3, nk_n3, nk_s3, nk_t3, nk_r4, nk_l4, nk_m4, nk_n4, nk_s4, nk_t4, nk_r6, nk_l6, nk_m6, nk_n6, nk_s6, nk_t6, nk_r7, nk_l7, nk_m7, nk_n7, nk_s7, nk_t7, nk_r8, nk_l8, nk_m8, nk_n8, nk_s8, nk_t8, nk_r12, nk_l12, nk_m12, nk_n12, nk_s12, nk_t12, nk_r31, nk_l31, nk_m31, nk_n31, nk_s31, nk_t31, nk_r32, nk_l32, nk_m32, nk_n32, nk_s32, nk_t32, nk_r59, nk_l59, nk_m59, nk_n59, nk_s59, nk_t59, nk_r60, nk_l60, nk_m60, nk_n60, nk_s60, nk_t60, nk_r96, nk_l96, nk_m96, nk_n96, nk_s96, nk_t96, nk_r97, nk_l97, nk_m97, nk_n97, nk_s97, nk_t97, nk_r120, nk_l120, nk_m120, nk_n120, nk_s120, nk_t120, nk_r240, nk_l240, nk_m240, nk_n240, nk_s240, nk_t240, nk_r255, nk_l255, nk_m255, nk_n255, nk_s255, nk_t255, nk_r256, nk_l256, nk_m256, nk_n256, nk_s256, nk_t256, Nat.add_zero, Nat.zero_add, Nat.mul_one, Nat.one_mul, Nat.mul_zero, Nat.zero_mul, Nat.sub_zero, Nat.reduceSub, Nat.reduceMul, Nat.add_sub_cancel, Bool.false_eq_true, Int.add_zero, Int.zero_add, Int.sub_zero]
    · obtain ⟨FR, BK, WH, c1, c2, c3, c4, c5, c6⟩ := hcu
      refine ⟨FR, BK, WH, c1, c2, c3, c4, fun c hc => ?_, fun w s' hw hwn hs' => ?_⟩
      · obtain ⟨g1, g2, g3, s1, g4, g5⟩ := c5 c hc
        exact ⟨g1, g2, g3, s1, by omega, g5⟩
      · by_cases hwk : w = k
        · subst hwk
          exact c6 w s' (Or.inr ⟨rfl, by omega⟩) hwn hs'
        · exact c6 w s' (Or.inl (by omega)) hwn hs'
  | succ j ih =>
    intro s cn x f a6 a7 hs hx hcn hpc hcu
    have hpc' := hpc
    obtain ⟨a, h1, h2, h3, h4, h5, h6⟩ := hpc
    have hok := h6 k hk
    obtain ⟨y, rfl⟩ : ∃ y : Nat, x = (y : Int) := ⟨(P k).length - s, by omega⟩
    have hy : y = (P k).length - s := by omega
    obtain ⟨FR, BK, WH, c1, c2, c3, c4, c5, c6⟩ := hcu
    have hsh : wpk (P k) / 2 ^ (8 * y) = wpk (wsl (P k) 0 s) := by
      have := wpk_take hok.1 (i := s) (by omega)
      rw [p256, hy]; exact this
    have hen : wpk (P k) % 2 ^ (8 * (y : Int)).toNat = wpk (wsl (P k) s (P k).length) := by
      have := wpk_drop hok.1 (i := s) (by omega)
      rw [show (8 * (y : Int)).toNat = 8 * y by omega, p256, hy, this]
      unfold wsl
      rw [List.take_length]
    have h48 := wpk_48 hok.1 hok.2
    have hw1 := wsl_ok hok.1 hok.2 (a := 0) (b := s)
    have hw2 := wsl_ok hok.1 hok.2 (a := s) (b := (P k).length)
    have e0 := s_X8_ending (d := d) (f := f) (m := m) (w := wpk (P k)) (k := (y : Int)) (by omega) (by omega) (by omega)
    rw [hen] at e0
    obtain ⟨i1, i2, i3, e1⟩ := s_placeM (d := d) (m := m) (by omega) hpc' hw1 (hfcl k hk 0 s (Nat.zero_le _) (by omega))
    obtain ⟨j1, j2, j3, e2⟩ := s_placeM (d := d) (m := m) (by omega) hpc' hw2 (hfcl k hk s _ (by omega) (Nat.le_refl _))
    have e3 := s_cutapp (d := d) (m := m) (a := i1) (b := j1) (c := k) (by omega) c1 c2 c3 c4 (by omega) (by omega) (by omega) (by omega)
    generalize hg : zup (zup (zup (zup f 142 (kA 420 (fun x => ((zst FR cn i1 x : Nat) : Int)))) 143 (kA 420 (fun x => ((zst BK cn j1 x : Nat) : Int)))) 144 (kA 420 (fun x => ((zst WH cn k x : Nat) : Int)))) 141 (kO 0 [.ref 142, .ref 143, .ref 144, .int (I (cn + 1 : Nat))]) = g at e3
    have hfg : fre 141 144 f g := by
      rw [← hg]
      exact fre_zup (fre_zup (fre_zup (fre_up (by omega) (by omega)) (by omega) (by omega)) (by omega) (by omega)) (by omega) (by omega)
    have hcu2 : CUD g P np (cn + 1) (fun w s' => w < k ∨ (w = k ∧ s' < s + 1)) := by
      rw [← hg]
      refine ⟨zst FR cn i1, zst BK cn j1, zst WH cn k, zup_same, by simp (disch := omega) only [zup_same, zup_ne], by simp (disch := omega) only [zup_same, zup_ne], by simp (disch := omega) only [zup_same, zup_ne], fun c hc => ?_, fun w s' hw hwn hs' => ?_⟩
      · by_cases hcc : c = cn
        · subst hcc
          rw [zst_same, zst_same, zst_same]
          exact ⟨i2, j2, hk, s, Or.inr ⟨rfl, by omega⟩, by omega, i3, j3⟩
        · rw [zst_ne hcc, zst_ne hcc, zst_ne hcc]
          obtain ⟨g1, g2, g3, s1, g4, g5⟩ := c5 c (by omega)
          exact ⟨g1, g2, g3, s1, by omega, g5⟩
      · by_cases hnew : w = k ∧ s' = s
        · obtain ⟨rfl, rfl⟩ := hnew
          exact ⟨cn, by omega, zst_same, by rw [zst_same]; exact i3, by rw [zst_same]; exact j3⟩
        · obtain ⟨c, g1, g2⟩ := c6 w s' (by omega) hwn hs'
          exact ⟨c, by omega, by rw [zst_ne (by omega), zst_ne (by omega), zst_ne (by omega)]; exact g2⟩
    obtain ⟨f', cn', a5, b6, b7, k1, k2, k3, k4⟩ := ih (s + 1) (cn + 1) ((y : Int) + -1) g (.int (I i1)) (.int (I j1)) (by omega) (by omega) (by omega) (pcs_fre hfg (by omega) hpc') hcu2
    refine ⟨f', cn', a5, b6, b7, ?_, k2, fre_trans hfg k3, k4⟩
    rw [ze_X0_read_28]
    by_cases hy0 : 1 ≤ y
    · rw [nk_d1 hy0] at k1
      refine Eq.trans ?_ k1
      simp (disch := omega) only [ze_X0_read_0, ze_X0_read_5, ze_X0_read_12, ze_X0_read_15, ze_X0_read_19, ze_X0_read_21, ze_X0_read_26, ze_X0_read_33, ze_X0_read_44, ze_X0_read_53, ze_X0_read_56, ze_X0_read_67, ze_X0_read_73, ze_X0_read_79, zcal_x, zfh_nil, zfh_cons, zset_0, zset_1, zset_s, zcal_v, zcal_n, zcalI_n, zco_O, zcf_O, zcs_O, zisc_O, zr8_A, zr8_S, zri_A, zri_B, zri_C, zrl_L, zrd_D, zrs_R, zgi_A, zgi_S, zgi_B, zgi_C, zgl_L, zgd_D, zisa_A, zisa_S, zisa_L, zisa_B, zisa_R, zln_A, zln_S, zln_L, zln_B, zln_R, zwi_A, zwl_L, zwd_D, zclr_i, zclr_r, zclr_l, zclr_d, zclr_n, zok_i, zok_l, zok_b0, zok_b1, I_add, I_sub, I_mul, I_neg, J_add, J_sub, J_mul, J_toI, I_ofNat, I_cl, I_J, I_ne2, zup_same, zup_up, zup_ne, zc1_eqB, zc1_neB, zret_b, zret_b0, zret_b1, List.getD_cons_zero, List.getD_cons_succ, List.length_cons, List.length_nil, List.set_cons_zero, List.set_cons_succ, Option.toList, List.cons_append, List.nil_append, Int.cast_ofNat_Int, decide_eq_true_eq, Bool.and_eq_true, and_self, true_and, and_true, if_true, if_false, not_true_eq_false, not_false_eq_true, ↓reduceIte, Nat.reduceAdd, Nat.reduceLT, Nat.reduceLeDiff, Nat.reduceEqDiff, Int.reduceAdd, Int.reduceSub, Int.reduceMul, Int.reduceNeg, Int.reduceLT, Int.reduceLE, Int.reduceEq, Int.reduceToNat, Int.toNat_natCast, Nat.lt_add_one, Nat.zero_lt_succ, q1_eq_t, q1_eq_f, q2_eq_t, q2_eq_f, ql_eq_t, ql_eq_f, q1_ne_t, q1_ne_f, q2_ne_t, q2_ne_f, ql_ne_t, ql_ne_f, q1_lt_t, q1_lt_f, q2_lt_t, q2_lt_f, ql_lt_t, ql_lt_f, q1_ge_t, q1_ge_f, q2_ge_t, q2_ge_f, ql_ge_t, ql_ge_f, q1_gt_t, q1_gt_f, q2_gt_t, q2_gt_f, ql_gt_t, ql_gt_f, q1_le_t, q1_le_f, q2_le_t, q2_le_f, ql_le_t, ql_le_f, zib_t, qb_t, qb_f, nk_add, nk_mul, nk_sub, nk_d1, nk_d0, nk_toNat, nk_r1, nk_l1, nk_m1, nk_n1, nk_s1, nk_t1, nk_r2, nk_l2, nk_m2, nk_n2, nk_s2, nk_t2, nk_r3, nk_l3, nk_m3, nk_n3, nk_s3, nk_t3, nk_r4, nk_l4, nk_m4, nk_n4, nk_s4, nk_t4, nk_r6, nk_l6, nk_m6, nk_n6, nk_s6, nk_t6, nk_r7, nk_l7, nk_m7, nk_n7, nk_s7, nk_t7, nk_r8, nk_l8, nk_m8, nk_n8, nk_s8, nk_t8, nk_r12, nk_l12, nk_m12, nk_n12, nk_s12, nk_t12, nk_r31, nk_l31, nk_m31, nk_n31, nk_s31, nk_t31, nk_r32, nk_l32, nk_m32, nk_n32, nk_s32, nk_t32, nk_r59, nk_l59, nk_m59, nk_n59, nk_s59, nk_t59, nk_r60, nk_l60, nk_m60, nk_n60, nk_s60, nk_t60, nk_r96, nk_l96, nk_m96, nk_n96, nk_s96, nk_t96, nk_r97, nk_l97, nk_m97, nk_n97, nk_s97, nk_t97, nk_r120, nk_l120, nk_m120, nk_n120, nk_s120, nk_t120, nk_r240, nk_l240, nk_m240, nk_n240, nk_s240, nk_t240, nk_r255, nk_l255, nk_m255, nk_n255, nk_s255, nk_t255, nk_r256, nk_l256, nk_m256, nk_n256, nk_s256, nk_t256, Nat.add_zero, Nat.zero_add, Nat.mul_one, Nat.one_mul, Nat.mul_zero, Nat.zero_mul, Nat.sub_zero, Nat.reduceSub, Nat.reduceMul, Nat.add_sub_cancel, Bool.false_eq_true, Int.add_zero, Int.zero_add, Int.sub_zero, h1, h2, J_ushrI, hsh, e0, e1, e2, e3, c1]
    · have hy0 : y = 0 := by omega
      clear hen hsh
      subst hy0
      rw [show ((0 : Nat) : Int) + -1 = -1 by decide] at k1
      have hsl : s = (P k).length := by omega
      refine Eq.trans ?_ k1
      rw [show ((0 : Nat) : Int) = 0 from rfl] at e0
      have hz : wpk (P k) / 2 ^ 0 = wpk (wsl (P k) 0 s) := by
        rw [Nat.pow_zero, Nat.div_one, hsl, wsl_full]
      simp (disch := omega) only [ze_X0_read_0, ze_X0_read_5, ze_X0_read_12, ze_X0_read_15, ze_X0_read_19, ze_X0_read_21, ze_X0_read_26, ze_X0_read_33, ze_X0_read_44, ze_X0_read_53, ze_X0_read_56, ze_X0_read_67, ze_X0_read_73, ze_X0_read_79, zcal_x, zfh_nil, zfh_cons, zset_0, zset_1, zset_s, zcal_v, zcal_n, zcalI_n, zco_O, zcf_O, zcs_O, zisc_O, zr8_A, zr8_S, zri_A, zri_B, zri_C, zrl_L, zrd_D, zrs_R, zgi_A, zgi_S, zgi_B, zgi_C, zgl_L, zgd_D, zisa_A, zisa_S, zisa_L, zisa_B, zisa_R, zln_A, zln_S, zln_L, zln_B, zln_R, zwi_A, zwl_L, zwd_D, zclr_i, zclr_r, zclr_l, zclr_d, zclr_n, zok_i, zok_l, zok_b0, zok_b1, I_add, I_sub, I_mul, I_neg, J_add, J_sub, J_mul, J_toI, I_ofNat, I_cl, I_J, I_ne2, zup_same, zup_up, zup_ne, zc1_eqB, zc1_neB, zret_b, zret_b0, zret_b1, List.getD_cons_zero, List.getD_cons_succ, List.length_cons, List.length_nil, List.set_cons_zero, List.set_cons_succ, Option.toList, List.cons_append, List.nil_append, Int.cast_ofNat_Int, decide_eq_true_eq, Bool.and_eq_true, and_self, true_and, and_true, if_true, if_false, not_true_eq_false, not_false_eq_true, ↓reduceIte, Nat.reduceAdd, Nat.reduceLT, Nat.reduceLeDiff, Nat.reduceEqDiff, Int.reduceAdd, Int.reduceSub, Int.reduceMul, Int.reduceNeg, Int.reduceLT, Int.reduceLE, Int.reduceEq, Int.reduceToNat, Int.toNat_natCast, Nat.lt_add_one, Nat.zero_lt_succ, q1_eq_t, q1_eq_f, q2_eq_t, q2_eq_f, ql_eq_t, ql_eq_f, q1_ne_t, q1_ne_f, q2_ne_t, q2_ne_f, ql_ne_t, ql_ne_f, q1_lt_t, q1_lt_f, q2_lt_t, q2_lt_f, ql_lt_t, ql_lt_f, q1_ge_t, q1_ge_f, q2_ge_t, q2_ge_f, ql_ge_t, ql_ge_f, q1_gt_t, q1_gt_f, q2_gt_t, q2_gt_f, ql_gt_t, ql_gt_f, q1_le_t, q1_le_f, q2_le_t, q2_le_f, ql_le_t, ql_le_f, zib_t, qb_t, qb_f, nk_add, nk_mul, nk_sub, nk_d1, nk_d0, nk_toNat, nk_r1, nk_l1, nk_m1, nk_n1, nk_s1, nk_t1, nk_r2, nk_l2, nk_m2, nk_n2, nk_s2, nk_t2, nk_r3, nk_l3, nk_m3, nk_n3, nk_s3, nk_t3, nk_r4, nk_l4, nk_m4, nk_n4, nk_s4, nk_t4, nk_r6, nk_l6, nk_m6, nk_n6, nk_s6, nk_t6, nk_r7, nk_l7, nk_m7, nk_n7, nk_s7, nk_t7, nk_r8, nk_l8, nk_m8, nk_n8, nk_s8, nk_t8, nk_r12, nk_l12, nk_m12, nk_n12, nk_s12, nk_t12, nk_r31, nk_l31, nk_m31, nk_n31, nk_s31, nk_t31, nk_r32, nk_l32, nk_m32, nk_n32, nk_s32, nk_t32, nk_r59, nk_l59, nk_m59, nk_n59, nk_s59, nk_t59, nk_r60, nk_l60, nk_m60, nk_n60, nk_s60, nk_t60, nk_r96, nk_l96, nk_m96, nk_n96, nk_s96, nk_t96, nk_r97, nk_l97, nk_m97, nk_n97, nk_s97, nk_t97, nk_r120, nk_l120, nk_m120, nk_n120, nk_s120, nk_t120, nk_r240, nk_l240, nk_m240, nk_n240, nk_s240, nk_t240, nk_r255, nk_l255, nk_m255, nk_n255, nk_s255, nk_t255, nk_r256, nk_l256, nk_m256, nk_n256, nk_s256, nk_t256, Nat.add_zero, Nat.zero_add, Nat.mul_one, Nat.one_mul, Nat.mul_zero, Nat.zero_mul, Nat.sub_zero, Nat.reduceSub, Nat.reduceMul, Nat.add_sub_cancel, Bool.false_eq_true, Int.add_zero, Int.zero_add, Int.sub_zero, h1, h2, J_ushrI, hz, e0, e1, e2, e3, c1, Int.reduceToNat, Int.reduceMul]
theorem cr_out (hd : 4 ≤ d) (hp : p + 1 < 141) (hfcl : fcl P np) : ∀ (j k cn : Nat) (f : zF) (a3 a4 a5 a6 a7 : Value), k + j = np → cn ≤ 7 * k → pcs f p P np → CUD f P np cn (fun w _ => w < k) → ∃ (f' : zF) (cn' : Nat), zex zTb d zqX0_read 7 [.ref 141, .ref p, .int (I k), a3, a4, a5, a6, a7] [] f m = some (.inl none, f', m) ∧ cn' ≤ 7 * np ∧ fre 141 144 f f' ∧ CUD f' P np cn' (fun w _ => w < np) := by
  intro j
  induction j with
  | zero =>
    intro k cn f a3 a4 a5 a6 a7 hk hcn hpc hcu
    obtain rfl : k = np := by omega
    have hpc' := hpc
    obtain ⟨a, h1, h2, h3, h4, h5, h6⟩ := hpc
    refine ⟨f, cn, ?_, hcn, fre_refl, hcu⟩
    rw [ze_X0_read_7]
    simp (disch := omega) only [ze_X0_read_0, ze_X0_read_5, ze_X0_read_12, ze_X0_read_15, ze_X0_read_19, ze_X0_read_21, ze_X0_read_26, ze_X0_read_33, ze_X0_read_44, ze_X0_read_53, ze_X0_read_56, ze_X0_read_67, ze_X0_read_73, ze_X0_read_79, zcal_x, zfh_nil, zfh_cons, zset_0, zset_1, zset_s, zcal_v, zcal_n, zcalI_n, zco_O, zcf_O, zcs_O, zisc_O, zr8_A, zr8_S, zri_A, zri_B, zri_C, zrl_L, zrd_D, zrs_R, zgi_A, zgi_S, zgi_B, zgi_C, zgl_L, zgd_D, zisa_A, zisa_S, zisa_L, zisa_B, zisa_R, zln_A, zln_S, zln_L, zln_B, zln_R, zwi_A, zwl_L, zwd_D, zclr_i, zclr_r, zclr_l, zclr_d, zclr_n, zok_i, zok_l, zok_b0, zok_b1, I_add, I_sub, I_mul, I_neg, J_add, J_sub, J_mul, J_toI, I_ofNat, I_cl, I_J, I_ne2, zup_same, zup_up, zup_ne, zc1_eqB, zc1_neB, zret_b, zret_b0, zret_b1, List.getD_cons_zero, List.getD_cons_succ, List.length_cons, List.length_nil, List.set_cons_zero, List.set_cons_succ, Option.toList, List.cons_append, List.nil_append, Int.cast_ofNat_Int, decide_eq_true_eq, Bool.and_eq_true, and_self, true_and, and_true, if_true, if_false, not_true_eq_false, not_false_eq_true, ↓reduceIte, Nat.reduceAdd, Nat.reduceLT, Nat.reduceLeDiff, Nat.reduceEqDiff, Int.reduceAdd, Int.reduceSub, Int.reduceMul, Int.reduceNeg, Int.reduceLT, Int.reduceLE, Int.reduceEq, Int.reduceToNat, Int.toNat_natCast, Nat.lt_add_one, Nat.zero_lt_succ, q1_eq_t, q1_eq_f, q2_eq_t, q2_eq_f, ql_eq_t, ql_eq_f, q1_ne_t, q1_ne_f, q2_ne_t, q2_ne_f, ql_ne_t, ql_ne_f, q1_lt_t, q1_lt_f, q2_lt_t, q2_lt_f, ql_lt_t, ql_lt_f, q1_ge_t, q1_ge_f, q2_ge_t, q2_ge_f, ql_ge_t, ql_ge_f, q1_gt_t, q1_gt_f, q2_gt_t, q2_gt_f, ql_gt_t, ql_gt_f, q1_le_t, q1_le_f, q2_le_t, q2_le_f, ql_le_t, ql_le_f, zib_t, qb_t, qb_f, nk_add, nk_mul, nk_sub, nk_d1, nk_d0, nk_toNat, nk_r1, nk_l1, nk_m1, nk_n1, nk_s1, nk_t1, nk_r2, nk_l2, nk_m2, nk_n2, nk_s2, nk_t2, nk_r3, nk_l3, nk_m3, nk_n3, nk_s3, nk_t3, nk_r4, nk_l4, nk_m4, nk_n4, nk_s4, nk_t4, nk_r6, nk_l6, nk_m6, nk_n6, nk_s6, nk_t6, nk_r7, nk_l7, nk_m7, nk_n7, nk_s7, nk_t7, nk_r8, nk_l8, nk_m8, nk_n8, nk_s8, nk_t8, nk_r12, nk_l12, nk_m12, nk_n12, nk_s12, nk_t12, nk_r31, nk_l31, nk_m31, nk_n31, nk_s31, nk_t31, nk_r32, nk_l32, nk_m32, nk_n32, nk_s32, nk_t32, nk_r59, nk_l59, nk_m59, nk_n59, nk_s59, nk_t59, nk_r60, nk_l60, nk_m60, nk_n60, nk_s60, nk_t60, nk_r96, nk_l96, nk_m96, nk_n96, nk_s96, nk_t96, nk_r97, nk_l97, nk_m97, nk_n97, nk_s97, nk_t97, nk_r120, nk_l120, nk_m120, nk_n120, nk_s120, nk_t120, nk_r240, nk_l240, nk_m240, nk_n240, nk_s240, nk_t240, nk_r255, nk_l255, nk_m255, nk_n255, nk_s255, nk_t255, nk_r256, nk_l256, nk_m256, nk_n256, nk_s256, nk_t256, Nat.add_zero, Nat.zero_add, Nat.mul_one, Nat.one_mul, Nat.mul_zero, Nat.zero_mul, Nat.sub_zero, Nat.reduceSub, Nat.reduceMul, Nat.add_sub_cancel, Bool.false_eq_true, Int.add_zero, Int.zero_add, Int.sub_zero, h1]
  | succ j ih =>
    intro k cn f a3 a4 a5 a6 a7 hk hcn hpc hcu
    have hpc' := hpc
    obtain ⟨a, h1, h2, h3, h4, h5, h6⟩ := hpc
    have hok := h6 k (by omega)
    have e1 := s_X8_lengthOf (d := d) (f := f) (m := m) (by omega) hok.2 (wpk_wsz hok.1)
    obtain ⟨f1, cn1, b5, b6, b7, i1, i2, i3, i4⟩ := cr_in (d := d) (m := m) (k := k) hd hp (by omega) hfcl ((P k).length + 1) 0 cn ((P k).length : Int) f a6 a7 (by omega) (by omega) (by omega) hpc' (by
      obtain ⟨FR, BK, WH, c1, c2, c3, c4, c5, c6⟩ := hcu
      refine ⟨FR, BK, WH, c1, c2, c3, c4, fun c hc => ?_, fun w s' hw hwn hs' => ?_⟩
      · obtain ⟨g1, g2, g3, s1, g4, g5⟩ := c5 c hc
        exact ⟨g1, g2, g3, s1, Or.inl g4, g5⟩
      · rcases hw with hw | hw
        · exact c6 w s' hw hwn hs'
        · omega)
    obtain ⟨f2, cn2, k1, k2, k3, k4⟩ := ih (k + 1) cn1 f1 (.long (J (wpk (P k)))) .null b5 b6 b7 (by omega) i2 (pcs_fre i3 (by omega) hpc') i4
    refine ⟨f2, cn2, ?_, k2, fre_trans i3 k3, k4⟩
    rw [ze_X0_read_7]
    refine Eq.trans (Eq.trans ?_ i1) k1
    have ha := h3 k (by omega)
    simp (disch := omega) only [ze_X0_read_0, ze_X0_read_5, ze_X0_read_12, ze_X0_read_15, ze_X0_read_19, ze_X0_read_21, ze_X0_read_26, ze_X0_read_33, ze_X0_read_44, ze_X0_read_53, ze_X0_read_56, ze_X0_read_67, ze_X0_read_73, ze_X0_read_79, zcal_x, zfh_nil, zfh_cons, zset_0, zset_1, zset_s, zcal_v, zcal_n, zcalI_n, zco_O, zcf_O, zcs_O, zisc_O, zr8_A, zr8_S, zri_A, zri_B, zri_C, zrl_L, zrd_D, zrs_R, zgi_A, zgi_S, zgi_B, zgi_C, zgl_L, zgd_D, zisa_A, zisa_S, zisa_L, zisa_B, zisa_R, zln_A, zln_S, zln_L, zln_B, zln_R, zwi_A, zwl_L, zwd_D, zclr_i, zclr_r, zclr_l, zclr_d, zclr_n, zok_i, zok_l, zok_b0, zok_b1, I_add, I_sub, I_mul, I_neg, J_add, J_sub, J_mul, J_toI, I_ofNat, I_cl, I_J, I_ne2, zup_same, zup_up, zup_ne, zc1_eqB, zc1_neB, zret_b, zret_b0, zret_b1, List.getD_cons_zero, List.getD_cons_succ, List.length_cons, List.length_nil, List.set_cons_zero, List.set_cons_succ, Option.toList, List.cons_append, List.nil_append, Int.cast_ofNat_Int, decide_eq_true_eq, Bool.and_eq_true, and_self, true_and, and_true, if_true, if_false, not_true_eq_false, not_false_eq_true, ↓reduceIte, Nat.reduceAdd, Nat.reduceLT, Nat.reduceLeDiff, Nat.reduceEqDiff, Int.reduceAdd, Int.reduceSub, Int.reduceMul, Int.reduceNeg, Int.reduceLT, Int.reduceLE, Int.reduceEq, Int.reduceToNat, Int.toNat_natCast, Nat.lt_add_one, Nat.zero_lt_succ, q1_eq_t, q1_eq_f, q2_eq_t, q2_eq_f, ql_eq_t, ql_eq_f, q1_ne_t, q1_ne_f, q2_ne_t, q2_ne_f, ql_ne_t, ql_ne_f, q1_lt_t, q1_lt_f, q2_lt_t, q2_lt_f, ql_lt_t, ql_lt_f, q1_ge_t, q1_ge_f, q2_ge_t, q2_ge_f, ql_ge_t, ql_ge_f, q1_gt_t, q1_gt_f, q2_gt_t, q2_gt_f, ql_gt_t, ql_gt_f, q1_le_t, q1_le_f, q2_le_t, q2_le_f, ql_le_t, ql_le_f, zib_t, qb_t, qb_f, nk_add, nk_mul, nk_sub, nk_d1, nk_d0, nk_toNat, nk_r1, nk_l1, nk_m1, nk_n1, nk_s1, nk_t1, nk_r2, nk_l2, nk_m2, nk_n2, nk_s2, nk_t2, nk_r3, nk_l3, nk_m3, nk_n3, nk_s3, nk_t3, nk_r4, nk_l4, nk_m4, nk_n4, nk_s4, nk_t4, nk_r6, nk_l6, nk_m6, nk_n6, nk_s6, nk_t6, nk_r7, nk_l7, nk_m7, nk_n7, nk_s7, nk_t7, nk_r8, nk_l8, nk_m8, nk_n8, nk_s8, nk_t8, nk_r12, nk_l12, nk_m12, nk_n12, nk_s12, nk_t12, nk_r31, nk_l31, nk_m31, nk_n31, nk_s31, nk_t31, nk_r32, nk_l32, nk_m32, nk_n32, nk_s32, nk_t32, nk_r59, nk_l59, nk_m59, nk_n59, nk_s59, nk_t59, nk_r60, nk_l60, nk_m60, nk_n60, nk_s60, nk_t60, nk_r96, nk_l96, nk_m96, nk_n96, nk_s96, nk_t96, nk_r97, nk_l97, nk_m97, nk_n97, nk_s97, nk_t97, nk_r120, nk_l120, nk_m120, nk_n120, nk_s120, nk_t120, nk_r240, nk_l240, nk_m240, nk_n240, nk_s240, nk_t240, nk_r255, nk_l255, nk_m255, nk_n255, nk_s255, nk_t255, nk_r256, nk_l256, nk_m256, nk_n256, nk_s256, nk_t256, Nat.add_zero, Nat.zero_add, Nat.mul_one, Nat.one_mul, Nat.mul_zero, Nat.zero_mul, Nat.sub_zero, Nat.reduceSub, Nat.reduceMul, Nat.add_sub_cancel, Bool.false_eq_true, Int.add_zero, Int.zero_add, Int.sub_zero, h1, h2, ha, e1]
theorem s_cutread (hd : 5 ≤ d) (hp : p + 1 < 141) (hfcl : fcl P np) (h : CUW f) (hpc : pcs f p P np) : ∃ (f' : zF) (cn : Nat), zrun zTb d 1 [.ref 141, .ref p] f m = some (.inl none, f', m) ∧ fre 141 144 f f' ∧ cn ≤ 420 ∧ CUD f' P np cn (fun w _ => w < np) := by
  obtain ⟨d, rfl⟩ : ∃ e, d = e + 1 := ⟨d - 1, by omega⟩
  obtain ⟨FR, BK, WH, cn, c1, c2, c3, c4⟩ := h
  have h60 : np ≤ 60 := by obtain ⟨a, h1, h2, h3, h4, h5, h6⟩ := hpc; exact h4
  have hpc1 : pcs (zup f 141 (kO 0 [.ref 142, .ref 143, .ref 144, .int (I (0 : Nat))])) p P np := pcs_fre (fre_up (a := 141) (b := 144) (by omega) (by omega)) (by omega) hpc
  obtain ⟨f', cn', k1, k2, k3, k4⟩ := cr_out (d := d) (m := m) (by omega) hp hfcl np 0 0 (zup f 141 (kO 0 [.ref 142, .ref 143, .ref 144, .int (I (0 : Nat))])) .null .null .null .null .null (by omega) (by omega) hpc1 ⟨FR, BK, WH, zup_same, by simp (disch := omega) only [zup_ne, c2], by simp (disch := omega) only [zup_ne, c3], by simp (disch := omega) only [zup_ne, c4], fun c hc => (by cases hc), fun w s hw => (by cases hw)⟩
  refine ⟨f', cn', ?_, fre_trans (fre_up (by omega) (by omega)) k3, by omega, k4⟩
  rw [zs_X0_read]
  refine Eq.trans ?_ k1
  simp (disch := omega) only [ze_X0_read_0, ze_X0_read_5, ze_X0_read_12, ze_X0_read_15, ze_X0_read_19, ze_X0_read_21, ze_X0_read_26, ze_X0_read_33, ze_X0_read_44, ze_X0_read_53, ze_X0_read_56, ze_X0_read_67, ze_X0_read_73, ze_X0_read_79, zcal_x, zfh_nil, zfh_cons, zset_0, zset_1, zset_s, zcal_v, zcal_n, zcalI_n, zco_O, zcf_O, zcs_O, zisc_O, zr8_A, zr8_S, zri_A, zri_B, zri_C, zrl_L, zrd_D, zrs_R, zgi_A, zgi_S, zgi_B, zgi_C, zgl_L, zgd_D, zisa_A, zisa_S, zisa_L, zisa_B, zisa_R, zln_A, zln_S, zln_L, zln_B, zln_R, zwi_A, zwl_L, zwd_D, zclr_i, zclr_r, zclr_l, zclr_d, zclr_n, zok_i, zok_l, zok_b0, zok_b1, I_add, I_sub, I_mul, I_neg, J_add, J_sub, J_mul, J_toI, I_ofNat, I_cl, I_J, I_ne2, zup_same, zup_up, zup_ne, zc1_eqB, zc1_neB, zret_b, zret_b0, zret_b1, List.getD_cons_zero, List.getD_cons_succ, List.length_cons, List.length_nil, List.set_cons_zero, List.set_cons_succ, Option.toList, List.cons_append, List.nil_append, Int.cast_ofNat_Int, decide_eq_true_eq, Bool.and_eq_true, and_self, true_and, and_true, if_true, if_false, not_true_eq_false, not_false_eq_true, ↓reduceIte, Nat.reduceAdd, Nat.reduceLT, Nat.reduceLeDiff, Nat.reduceEqDiff, Int.reduceAdd, Int.reduceSub, Int.reduceMul, Int.reduceNeg, Int.reduceLT, Int.reduceLE, Int.reduceEq, Int.reduceToNat, Int.toNat_natCast, Nat.lt_add_one, Nat.zero_lt_succ, q1_eq_t, q1_eq_f, q2_eq_t, q2_eq_f, ql_eq_t, ql_eq_f, q1_ne_t, q1_ne_f, q2_ne_t, q2_ne_f, ql_ne_t, ql_ne_f, q1_lt_t, q1_lt_f, q2_lt_t, q2_lt_f, ql_lt_t, ql_lt_f, q1_ge_t, q1_ge_f, q2_ge_t, q2_ge_f, ql_ge_t, ql_ge_f, q1_gt_t, q1_gt_f, q2_gt_t, q2_gt_f, ql_gt_t, ql_gt_f, q1_le_t, q1_le_f, q2_le_t, q2_le_f, ql_le_t, ql_le_f, zib_t, qb_t, qb_f, nk_add, nk_mul, nk_sub, nk_d1, nk_d0, nk_toNat, nk_r1, nk_l1, nk_m1, nk_n1, nk_s1, nk_t1, nk_r2, nk_l2, nk_m2, nk_n2, nk_s2, nk_t2, nk_r3, nk_l3, nk_m3, nk_n3, nk_s3, nk_t3, nk_r4, nk_l4, nk_m4, nk_n4, nk_s4, nk_t4, nk_r6, nk_l6, nk_m6, nk_n6, nk_s6, nk_t6, nk_r7, nk_l7, nk_m7, nk_n7, nk_s7, nk_t7, nk_r8, nk_l8, nk_m8, nk_n8, nk_s8, nk_t8, nk_r12, nk_l12, nk_m12, nk_n12, nk_s12, nk_t12, nk_r31, nk_l31, nk_m31, nk_n31, nk_s31, nk_t31, nk_r32, nk_l32, nk_m32, nk_n32, nk_s32, nk_t32, nk_r59, nk_l59, nk_m59, nk_n59, nk_s59, nk_t59, nk_r60, nk_l60, nk_m60, nk_n60, nk_s60, nk_t60, nk_r96, nk_l96, nk_m96, nk_n96, nk_s96, nk_t96, nk_r97, nk_l97, nk_m97, nk_n97, nk_s97, nk_t97, nk_r120, nk_l120, nk_m120, nk_n120, nk_s120, nk_t120, nk_r240, nk_l240, nk_m240, nk_n240, nk_s240, nk_t240, nk_r255, nk_l255, nk_m255, nk_n255, nk_s255, nk_t255, nk_r256, nk_l256, nk_m256, nk_n256, nk_s256, nk_t256, Nat.add_zero, Nat.zero_add, Nat.mul_one, Nat.one_mul, Nat.mul_zero, Nat.zero_mul, Nat.sub_zero, Nat.reduceSub, Nat.reduceMul, Nat.add_sub_cancel, Bool.false_eq_true, Int.add_zero, Int.zero_add, Int.sub_zero, c1, zfty_0_3]
end
