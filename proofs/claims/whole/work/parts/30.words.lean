/-! SPECS: words -/
theorem zc1_eqB {P : Prop} [Decidable P] : zc1 .eq (I (if P then 1 else 0)) = decide (¬ P) := by
  by_cases h : P
  · rw [if_pos h, decide_eq_false (fun z => z h)]; decide
  · rw [if_neg h, decide_eq_true h]; decide
theorem zc1_neB {P : Prop} [Decidable P] : zc1 .ne (I (if P then 1 else 0)) = decide P := by
  by_cases h : P
  · rw [if_pos h, decide_eq_true h]; decide
  · rw [if_neg h, decide_eq_false h]; decide
theorem zret_b {P : Prop} [Decidable P] : (I (if P then 1 else 0) = 0 ∨ I (if P then 1 else 0) = 1) = True := by
  apply propext
  refine ⟨fun _ => trivial, fun _ => ?_⟩
  by_cases h : P
  · rw [if_pos h]; right; decide
  · rw [if_neg h]; left; decide
theorem zret_b0 : (I 0 = 0 ∨ I 0 = 1) = True := by apply propext; exact ⟨fun _ => trivial, fun _ => Or.inl (by decide)⟩
theorem zret_b1 : (I 1 = 0 ∨ I 1 = 1) = True := by apply propext; exact ⟨fun _ => trivial, fun _ => Or.inr (by decide)⟩
theorem s_X8_isLetter {d : Nat} {f : zF} {m : zM} {x : Int} (hd : 1 ≤ d) (h1 : -2147483648 ≤ x) (h2 : x < 2147483648) : zrun zTb d 70 [.int (I x)] f m = some (.inl (some (.int (I (if 97 ≤ x ∧ x ≤ 99 then 1 else 0)))), f, m) := by
  obtain ⟨d, rfl⟩ : ∃ e, d = e + 1 := ⟨d - 1, by omega⟩
  rw [zs_X8_isLetter]
  simp (disch := omega) only [ze_X8_isLetter_0, ze_X8_isLetter_6, ze_X8_isLetter_12, ze_X8_isLetter_16, zcal_v, zcal_n, zcalI_n, zco_O, zcf_O, zcs_O, zisc_O, zr8_A, zr8_S, zri_A, zri_B, zri_C, zrl_L, zrd_D, zrs_R, zgi_A, zgi_S, zgi_B, zgi_C, zgl_L, zgd_D, zisa_A, zisa_S, zisa_L, zisa_B, zisa_R, zln_A, zln_S, zln_L, zln_B, zln_R, zwi_A, zwl_L, zwd_D, zclr_i, zclr_r, zclr_l, zclr_d, zclr_n, zok_i, zok_l, zok_b0, zok_b1, I_add, I_sub, I_mul, I_neg, J_add, J_sub, J_mul, J_toI, I_ofNat, zib_I, I_cl, I_J, I_ne2, zup_same, zup_up, zc1_eqB, zc1_neB, zc1_eq, zc1_ne, zc1_lt, zc1_ge, zc1_gt, zc1_le, zc2_eq, zc2_ne, zc2_lt, zc2_ge, zc2_gt, zc2_le, lc_eq, lc_ne, lc_ge, lc_le, lc_gt, lc_lt, zret_b, zret_b0, zret_b1, List.getD_cons_zero, List.getD_cons_succ, List.length_cons, List.length_nil, List.set_cons_zero, List.set_cons_succ, Option.toList, List.cons_append, List.nil_append, Int.cast_ofNat_Int, decide_eq_true_eq, Bool.and_eq_true, and_self, true_and, and_true, if_true, if_false, not_true_eq_false, not_false_eq_true, reduceIte, Nat.reduceAdd, Nat.reduceLT, Nat.reduceLeDiff, Nat.reduceEqDiff, Int.reduceAdd, Int.reduceSub, Int.reduceMul, Int.reduceNeg, Int.reduceLT, Int.reduceLE, Int.reduceEq, Int.reduceToNat, Int.toNat_natCast, Nat.lt_add_one, Nat.zero_lt_succ]
  by_cases h3 : x < 97
  · rw [if_pos h3, if_neg (by omega)]
  · rw [if_neg h3]
    by_cases h4 : 99 < x
    · rw [if_pos h4, if_neg (by omega)]
    · rw [if_neg h4, if_pos (by omega)]
/-- the byte of a number that a shift leads to; the letters of a number told, the first ahead -/
def bt (n s : Nat) : Nat := n / 2 ^ s % 256
def wl (n : Nat) : Nat → List Nat
  | 0 => []
  | k + 1 => if bt n (8 * k) = 0 then wl n k else bt n (8 * k) :: wl n k
theorem wl_len {n : Nat} : ∀ k, (wl n k).length ≤ k
  | 0 => Nat.le_refl 0
  | k + 1 => by
    unfold wl
    have := wl_len (n := n) k
    split
    · omega
    · rw [List.length_cons]; omega
theorem bt_lt {n s : Nat} : bt n s < 256 := Nat.mod_lt _ (by decide)
theorem J_and255 (a : Nat) : J a &&& J 255 = J ((a % 256 : Nat) : Int) := by
  rw [show (255 : Int) = ((255 : Nat) : Int) from rfl, J_and, Nat.and_two_pow_sub_one_eq_mod a 8]
theorem J_and1 (a : Nat) : J a &&& J 1 = J ((a % 2 : Nat) : Int) := by
  rw [show (1 : Int) = ((1 : Nat) : Int) from rfl, J_and, Nat.and_two_pow_sub_one_eq_mod a 1]
theorem J_ushrI {a : Nat} {k : Int} (ha : a < 18446744073709551616) (h0 : 0 ≤ k) (hk : k < 64) : ((J a).toUInt64 >>> ((J k).toUInt64 &&& Int64.toUInt64 63)).toInt64 = J ((a / 2 ^ k.toNat : Nat) : Int) := by
  obtain ⟨k, rfl⟩ := Int.eq_ofNat_of_zero_le h0
  rw [← I_toJ (a := (k : Int)) ⟨by omega, by omega⟩]
  exact J_ushr a k ha (by omega)
theorem J_shlI {a : Nat} {k : Int} (h0 : 0 ≤ k) (hk : k < 64) : J a <<< (J k &&& 63) = J ((a * 2 ^ k.toNat : Nat) : Int) := by
  obtain ⟨k, rfl⟩ := Int.eq_ofNat_of_zero_le h0
  rw [← I_toJ (a := (k : Int)) ⟨by omega, by omega⟩]
  exact J_shl a k (by omega)
theorem J_shl1 {k : Int} (h0 : 0 ≤ k) (hk : k < 64) : J 1 <<< (J k &&& 63) = J ((2 ^ k.toNat : Nat) : Int) := by
  obtain ⟨k, rfl⟩ := Int.eq_ofNat_of_zero_le h0
  rw [← I_toJ (a := (k : Int)) ⟨by omega, by omega⟩]
  rw [show (1 : Int) = ((1 : Nat) : Int) from rfl, J_shl 1 k (by omega), Nat.one_mul]; rfl
theorem J_byte {a : Nat} {k : Int} (ha : a < 18446744073709551616) (h0 : 0 ≤ k) (hk : k < 64) : ((J a).toUInt64 >>> ((J k).toUInt64 &&& Int64.toUInt64 63)).toInt64 &&& J 255 = J ((bt a k.toNat : Nat) : Int) := by
  rw [J_ushrI ha h0 hk, J_and255]; rfl
abbrev wgood (l : List Nat) : Prop := ∀ c ∈ l, 97 ≤ c ∧ c ≤ 99
theorem l_X8_isWord {d n : Nat} {f : zF} {m : zM} (hd : 1 ≤ d) (hn : n < 18446744073709551616) : ∀ j k : Nat, k + j = 8 → ∀ a4, wgood (wl n k) → zex zTb d zqX8_isWord 4 [.long (J n), .null, .int (I ((wl n k).length : Nat)), .int (I (8 * (k : Int))), a4] [] f m = some (.inl (some (.int (I (if wgood (wl n 8) ∧ (wl n 8).length ≤ 6 then 1 else 0)))), f, m) := by
  intro j
  induction j with
  | zero =>
    intro k hk a4 hg
    obtain rfl : k = 8 := by omega
    have hl := wl_len (n := n) 8
    rw [ze_X8_isWord_4]
    simp (disch := omega) only [ze_X8_isWord_0, ze_X8_isWord_10, ze_X8_isWord_25, ze_X8_isWord_30, ze_X8_isWord_33, ze_X8_isWord_35, ze_X8_isWord_41, ze_X8_isWord_45, ze_X8_isWord_54, ze_X8_isWord_60, ze_X8_isWord_64, zcal_v, zcal_n, zcalI_n, zco_O, zcf_O, zcs_O, zisc_O, zr8_A, zr8_S, zri_A, zri_B, zri_C, zrl_L, zrd_D, zrs_R, zgi_A, zgi_S, zgi_B, zgi_C, zgl_L, zgd_D, zisa_A, zisa_S, zisa_L, zisa_B, zisa_R, zln_A, zln_S, zln_L, zln_B, zln_R, zwi_A, zwl_L, zwd_D, zclr_i, zclr_r, zclr_l, zclr_d, zclr_n, zok_i, zok_l, zok_b0, zok_b1, I_add, I_sub, I_mul, I_neg, J_add, J_sub, J_mul, J_toI, I_ofNat, zib_I, I_cl, I_J, I_ne2, zup_same, zup_up, zc1_eqB, zc1_neB, zc1_eq, zc1_ne, zc1_lt, zc1_ge, zc1_gt, zc1_le, zc2_eq, zc2_ne, zc2_lt, zc2_ge, zc2_gt, zc2_le, lc_eq, lc_ne, lc_ge, lc_le, lc_gt, lc_lt, zret_b, zret_b0, zret_b1, List.getD_cons_zero, List.getD_cons_succ, List.length_cons, List.length_nil, List.set_cons_zero, List.set_cons_succ, Option.toList, List.cons_append, List.nil_append, Int.cast_ofNat_Int, decide_eq_true_eq, Bool.and_eq_true, and_self, true_and, and_true, if_true, if_false, not_true_eq_false, not_false_eq_true, reduceIte, Nat.reduceAdd, Nat.reduceLT, Nat.reduceLeDiff, Nat.reduceEqDiff, Int.reduceAdd, Int.reduceSub, Int.reduceMul, Int.reduceNeg, Int.reduceLT, Int.reduceLE, Int.reduceEq, Int.reduceToNat, Int.toNat_natCast, Nat.lt_add_one, Nat.zero_lt_succ]
    by_cases h6 : 6 < (wl n 8).length
    · rw [if_pos (by omega), if_neg (fun z => by omega)]
    · rw [if_neg (by omega), if_pos ⟨hg, by omega⟩]
  | succ j ih =>
    intro k hk a4 hg
    have hl := wl_len (n := n) k
    have hb := bt_lt (n := n) (s := 8 * k)
    have h8 : (8 * (k : Int)).toNat = 8 * k := by omega
    have hs : wl n (k + 1) = if bt n (8 * k) = 0 then wl n k else bt n (8 * k) :: wl n k := rfl
    have hmono : ∀ i j, i ≤ j → wgood (wl n j) → wgood (wl n i) := by
      intro i j hij
      induction hij with
      | refl => exact id
      | step h ih2 =>
        intro hz
        apply ih2
        intro c hc
        apply hz
        unfold wl
        split
        · exact hc
        · exact List.mem_cons_of_mem _ hc
    rw [ze_X8_isWord_4]
    simp (disch := omega) only [ze_X8_isWord_0, ze_X8_isWord_10, ze_X8_isWord_25, ze_X8_isWord_30, ze_X8_isWord_33, ze_X8_isWord_35, ze_X8_isWord_41, ze_X8_isWord_45, ze_X8_isWord_54, ze_X8_isWord_60, ze_X8_isWord_64, zcal_v, zcal_n, zcalI_n, zco_O, zcf_O, zcs_O, zisc_O, zr8_A, zr8_S, zri_A, zri_B, zri_C, zrl_L, zrd_D, zrs_R, zgi_A, zgi_S, zgi_B, zgi_C, zgl_L, zgd_D, zisa_A, zisa_S, zisa_L, zisa_B, zisa_R, zln_A, zln_S, zln_L, zln_B, zln_R, zwi_A, zwl_L, zwd_D, zclr_i, zclr_r, zclr_l, zclr_d, zclr_n, zok_i, zok_l, zok_b0, zok_b1, I_add, I_sub, I_mul, I_neg, J_add, J_sub, J_mul, J_toI, I_ofNat, zib_I, I_cl, I_J, I_ne2, zup_same, zup_up, zc1_eqB, zc1_neB, zc1_eq, zc1_ne, zc1_lt, zc1_ge, zc1_gt, zc1_le, zc2_eq, zc2_ne, zc2_lt, zc2_ge, zc2_gt, zc2_le, lc_eq, lc_ne, lc_ge, lc_le, lc_gt, lc_lt, zret_b, zret_b0, zret_b1, List.getD_cons_zero, List.getD_cons_succ, List.length_cons, List.length_nil, List.set_cons_zero, List.set_cons_succ, Option.toList, List.cons_append, List.nil_append, Int.cast_ofNat_Int, decide_eq_true_eq, Bool.and_eq_true, and_self, true_and, and_true, if_true, if_false, not_true_eq_false, not_false_eq_true, reduceIte, Nat.reduceAdd, Nat.reduceLT, Nat.reduceLeDiff, Nat.reduceEqDiff, Int.reduceAdd, Int.reduceSub, Int.reduceMul, Int.reduceNeg, Int.reduceLT, Int.reduceLE, Int.reduceEq, Int.reduceToNat, Int.toNat_natCast, Nat.lt_add_one, Nat.zero_lt_succ, J_byte, h8, s_X8_isLetter]
    by_cases h0 : bt n (8 * k) = 0
    · rw [if_neg (by omega), if_pos (by omega), if_pos (by omega)]
      rw [if_pos h0] at hs
      have := ih (k + 1) (by omega) (.int (I ((bt n (8 * k) : Nat) : Int))) (by rw [hs]; exact hg)
      rw [hs] at this
      rw [← this]
      simp only [Int.add_zero, Int.natCast_add, Int.mul_add, Int.natCast_one, Int.mul_one, Int.cast_ofNat_Int]
    · rw [if_neg (by omega), if_neg (by omega)]
      rw [if_neg h0] at hs
      by_cases hlet : 97 ≤ bt n (8 * k) ∧ bt n (8 * k) ≤ 99
      · rw [if_pos (by omega), if_neg (by omega)]
        have := ih (k + 1) (by omega) (.int (I ((bt n (8 * k) : Nat) : Int))) (by
          rw [hs]
          intro c hc
          rcases List.mem_cons.mp hc with rfl | hc
          · exact hlet
          · exact hg c hc)
        rw [hs] at this
        rw [← this]
        simp only [List.length_cons, Int.natCast_add, Int.mul_add, Int.natCast_one, Int.mul_one, Int.cast_ofNat_Int]
      · rw [if_neg (by omega), if_neg]
        rintro ⟨hz, -⟩
        have := hmono (k + 1) 8 (by omega) hz
        rw [hs] at this
        exact hlet (this _ List.mem_cons_self)
theorem s_X8_isWord {d n : Nat} {f : zF} {m : zM} (hd : 2 ≤ d) (hn : n < 18446744073709551616) : zrun zTb d 71 [.long (J n)] f m = some (.inl (some (.int (I (if wgood (wl n 8) ∧ (wl n 8).length ≤ 6 then 1 else 0)))), f, m) := by
  obtain ⟨d, rfl⟩ : ∃ e, d = e + 1 := ⟨d - 1, by omega⟩
  rw [zs_X8_isWord]
  simp only [ze_X8_isWord_0, ze_X8_isWord_10, ze_X8_isWord_25, ze_X8_isWord_30, ze_X8_isWord_33, ze_X8_isWord_35, ze_X8_isWord_41, ze_X8_isWord_45, ze_X8_isWord_54, ze_X8_isWord_60, ze_X8_isWord_64, zclr_n]
  exact l_X8_isWord (by omega) hn 8 0 rfl _ (fun _ h => by cases h)
/-- letters, packed: each a byte; the packed word of a number told -/
def wpk (l : List Nat) : Nat := l.foldl (fun x c => x * 256 + c) 0
theorem wpk_snoc (l : List Nat) (c : Nat) : wpk (l ++ [c]) = wpk l * 256 + c := by unfold wpk; rw [List.foldl_append]; rfl
/-- the letters down to a byte -/
def wh (n k : Nat) : List Nat := (wl n 8).take ((wl n 8).length - (wl n k).length)
theorem wl_suffix {n : Nat} : ∀ j k, k ≤ j → ∃ l, wl n j = l ++ wl n k := by
  intro j k h
  induction h with
  | refl => exact ⟨[], rfl⟩
  | @step j h ih =>
    obtain ⟨l, hl⟩ := ih
    by_cases h0 : bt n (8 * j) = 0
    · exact ⟨l, by rw [← hl]; exact if_pos h0⟩
    · exact ⟨bt n (8 * j) :: l, by rw [List.cons_append, ← hl]; exact if_neg h0⟩
theorem wh_app {n k : Nat} (hk : k ≤ 8) : wh n k ++ wl n k = wl n 8 := by
  obtain ⟨l, hl⟩ := wl_suffix (n := n) 8 k hk
  unfold wh
  rw [hl, List.length_append, Nat.add_sub_cancel, List.take_left]
theorem wh_step {n k : Nat} (hk : k < 8) : wh n k = if bt n (8 * k) = 0 then wh n (k + 1) else wh n (k + 1) ++ [bt n (8 * k)] := by
  have h1 := wh_app (n := n) (k := k) (by omega)
  have h2 := wh_app (n := n) (k := k + 1) (by omega)
  have hs : wl n (k + 1) = if bt n (8 * k) = 0 then wl n k else bt n (8 * k) :: wl n k := rfl
  split
  · rename_i h0
    rw [if_pos h0] at hs
    rw [hs] at h2
    exact List.append_cancel_right (h1.trans h2.symm)
  · rename_i h0
    rw [if_neg h0] at hs
    rw [hs] at h2
    refine List.append_cancel_right (bs := wl n k) (h1.trans ?_)
    rw [← h2]; simp
theorem wpk_lt {l : List Nat} (h : ∀ c ∈ l, c < 256) : wpk l < 256 ^ l.length := by
  have key : ∀ (l : List Nat) (x : Nat), (∀ c ∈ l, c < 256) → l.foldl (fun x c => x * 256 + c) x < (x + 1) * 256 ^ l.length := by
    intro l
    induction l with
    | nil => intro x _; show x < (x + 1) * 1; omega
    | cons c l ih =>
      intro x h
      rw [List.foldl_cons, List.length_cons, Nat.pow_succ]
      refine Nat.lt_of_lt_of_le (ih _ (fun c hc => h c (List.mem_cons_of_mem _ hc))) ?_
      have hc := h c List.mem_cons_self
      rw [Nat.mul_comm (256 ^ l.length) 256, ← Nat.mul_assoc]
      exact Nat.mul_le_mul_right _ (by omega)
  have := key l 0 h
  rw [Nat.zero_add, Nat.one_mul] at this
  exact this
theorem wl_256 {n : Nat} : ∀ k, ∀ c ∈ wl n k, c < 256
  | 0 => fun _ h => by cases h
  | k + 1 => by
    intro c hc
    unfold wl at hc
    split at hc
    · exact wl_256 k c hc
    · rcases List.mem_cons.mp hc with rfl | hc
      · exact bt_lt
      · exact wl_256 k c hc
section
variable {d p w : Nat} {f : zF} {m : zM} {a : Nat → Int} {n : Nat}
theorem s_X3_has {j : Int} (hd : 1 ≤ d) (hp : f p = some (kO 3 [.ref w, .int (I n)])) (hw : f w = some (kL 60 a)) (hn : n ≤ 60) (h1 : -2147483648 ≤ j) (h2 : j < 2147483648) : zrun zTb d 25 [.ref p, .int (I j)] f m = some (.inl (some (.int (I (if 0 ≤ j ∧ j < n then 1 else 0)))), f, m) := by
  obtain ⟨d, rfl⟩ : ∃ e, d = e + 1 := ⟨d - 1, by omega⟩
  rw [zs_X3_has]
  simp (disch := omega) only [ze_X3_has_0, ze_X3_has_4, ze_X3_has_9, ze_X3_has_12, ze_X3_has_17, ze_X3_has_18, ze_X3_has_21, ze_X3_has_25, zcal_v, zcal_n, zcalI_n, zco_O, zcf_O, zcs_O, zisc_O, zr8_A, zr8_S, zri_A, zri_B, zri_C, zrl_L, zrd_D, zrs_R, zgi_A, zgi_S, zgi_B, zgi_C, zgl_L, zgd_D, zisa_A, zisa_S, zisa_L, zisa_B, zisa_R, zln_A, zln_S, zln_L, zln_B, zln_R, zwi_A, zwl_L, zwd_D, zclr_i, zclr_r, zclr_l, zclr_d, zclr_n, zok_i, zok_l, zok_b0, zok_b1, I_add, I_sub, I_mul, I_neg, J_add, J_sub, J_mul, J_toI, I_ofNat, zib_I, I_cl, I_J, I_ne2, zup_same, zup_up, zc1_eqB, zc1_neB, zc1_eq, zc1_ne, zc1_lt, zc1_ge, zc1_gt, zc1_le, zc2_eq, zc2_ne, zc2_lt, zc2_ge, zc2_gt, zc2_le, lc_eq, lc_ne, lc_ge, lc_le, lc_gt, lc_lt, zret_b, zret_b0, zret_b1, List.getD_cons_zero, List.getD_cons_succ, List.length_cons, List.length_nil, List.set_cons_zero, List.set_cons_succ, Option.toList, List.cons_append, List.nil_append, Int.cast_ofNat_Int, decide_eq_true_eq, Bool.and_eq_true, and_self, true_and, and_true, if_true, if_false, not_true_eq_false, not_false_eq_true, reduceIte, Nat.reduceAdd, Nat.reduceLT, Nat.reduceLeDiff, Nat.reduceEqDiff, Int.reduceAdd, Int.reduceSub, Int.reduceMul, Int.reduceNeg, Int.reduceLT, Int.reduceLE, Int.reduceEq, Int.reduceToNat, Int.toNat_natCast, Nat.lt_add_one, Nat.zero_lt_succ, hp, hw]
  by_cases h3 : j < 0
  · rw [if_pos h3, if_neg (by omega)]
  · rw [if_neg h3]
    by_cases h4 : (n : Int) ≤ j
    · rw [if_pos h4, if_neg (by omega)]
    · rw [if_neg h4, if_neg (by omega), if_pos (by omega)]
end
