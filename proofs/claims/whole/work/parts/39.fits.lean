/-! SPECS: trial, whether a pattern fits a word -/
def sett (f : zF) (len : Nat) (LT : Nat → Int) (E : Nat → Nat → Nat) : zF := fun j => if j = 147 then some (kO 7 [.ref 148, .int (I len), .ref 149]) else if j = 148 then some (kA 6 LT) else if j = 149 then some (kR 6 60 (fun i => 150 + i)) else if 150 ≤ j ∧ j < 210 then some (kA 7 (fun s => (E (j - 150) s : Int))) else f j
def upE (E : Nat → Nat → Nat) (i s x : Nat) : Nat → Nat → Nat := fun i' s' => if i' = i ∧ s' = s then x else E i' s'
/-- the ends, told for a node from the last start down; told for the nodes from the last down -/
def Es (n len : Nat) (K L Z LT : Nat → Int) (node : Nat) : Nat → (Nat → Nat → Nat) → (Nat → Nat → Nat)
  | 0, E => E
  | k + 1, E => Es n len K L Z LT node k (upE E node k (eo n len K L Z LT E node k))
def En (n len : Nat) (K L Z LT : Nat → Int) : Nat → (Nat → Nat → Nat) → (Nat → Nat → Nat)
  | 0, E => E
  | i + 1, E => En n len K L Z LT i (Es n len K L Z LT i (len + 1) E)
section
variable {d p n len : Nat} {f : zF} {m : zM} {K L Z LT LT' : Nat → Int} {E : Nat → Nat → Nat}
theorem tri_sett : tri (sett f len LT E) len LT E := by
  unfold sett
  refine ⟨if_pos rfl, rfl, rfl, fun i hi => ?_⟩
  dsimp only
  rw [if_neg (by omega), if_neg (by omega), if_neg (by omega), if_pos (by omega), Nat.add_sub_cancel_left]
theorem sett_ne {j : Nat} (h : j < 147 ∨ 209 < j) : sett f len LT E j = f j := by
  unfold sett
  rw [if_neg (by omega), if_neg (by omega), if_neg (by omega), if_neg (by omega)]
theorem sett_of {g : zF} (h : tri g len LT E) (ho : ∀ j, j < 147 ∨ 209 < j → g j = f j) : g = sett f len LT E := by
  funext j
  unfold sett
  by_cases h0 : j = 147
  · rw [if_pos h0, h0, h.1]
  · rw [if_neg h0]
    by_cases h1 : j = 148
    · rw [if_pos h1, h1, h.2.1]
    · rw [if_neg h1]
      by_cases h2 : j = 149
      · rw [if_pos h2, h2, h.2.2.1]
      · rw [if_neg h2]
        by_cases h3 : 150 ≤ j ∧ j < 210
        · rw [if_pos h3, ← h.2.2.2 (j - 150) (by omega), show 150 + (j - 150) = j by omega]
        · rw [if_neg h3]; exact ho j (by omega)
theorem sett_self (h : tri f len LT E) : sett f len LT E = f := (sett_of h (fun _ _ => rfl)).symm
theorem sett_sett {len' : Nat} {E' : Nat → Nat → Nat} : sett (sett f len LT E) len' LT' E' = sett f len' LT' E' := sett_of tri_sett (fun j h => by rw [sett_ne h, sett_ne h])
theorem sett_e {i s x : Nat} (hi : i < 60) : zup (sett f len LT E) (150 + i) (kA 7 (zst (fun s => (E i s : Int)) s (x : Int))) = sett f len LT (upE E i s x) := by
  have t := tri_sett (f := f) (len := len) (LT := LT) (E := E)
  apply sett_of
  · refine ⟨by rw [zup_ne (by omega), t.1], by rw [zup_ne (by omega), t.2.1], by rw [zup_ne (by omega), t.2.2.1], fun j hj => ?_⟩
    by_cases h : j = i
    · subst h
      rw [zup_same]
      congr 2
      funext s'
      unfold zst upE
      by_cases h2 : s' = s
      · rw [if_pos h2, if_pos ⟨rfl, h2⟩]
      · rw [if_neg h2, if_neg (fun z => h2 z.2)]
    · rw [zup_ne (by omega), t.2.2.2 j hj]
      congr 2
      funext s'
      unfold upE
      rw [if_neg (fun z => h z.1)]
  · intro j hj
    rw [zup_ne (by omega), sett_ne hj]
theorem eb_lt {node : Int} {starts : Nat} (hE : ∀ i s, E i s < 128) : ∀ k, eb E node starts k < 128
  | 0 => by unfold eb; omega
  | k + 1 => by
    unfold eb
    split
    · exact eb_lt hE k
    · exact Nat.or_lt_two_pow (n := 7) (eb_lt hE k) (ef_lt hE)
theorem eo_lt {node start : Nat} (hE : ∀ i s, E i s < 128) (hl : len ≤ 6) (hs : start ≤ len) : eo n len K L Z LT E node start < 128 := by
  have h1 : 2 ^ start ≤ 2 ^ 6 := Nat.pow_le_pow_right (by omega) (by omega)
  unfold eo
  split
  · omega
  split
  · omega
  split
  · split
    · rename_i hq
      have h2 : 2 ^ start ≤ 2 ^ 5 := Nat.pow_le_pow_right (by omega) (by omega)
      omega
    · omega
  split
  · exact Nat.or_lt_two_pow (n := 7) (by omega) (ef_lt hE)
  split
  · exact Nat.or_lt_two_pow (n := 7) (by omega) (eb_lt hE _)
  split
  · exact eb_lt hE _
  · exact Nat.or_lt_two_pow (n := 7) (ef_lt hE) (ef_lt hE)
theorem upE_lt {i s x : Nat} (hE : ∀ i s, E i s < 128) (hx : x < 128) : ∀ i' s', upE E i s x i' s' < 128 := by
  intro i' s'
  unfold upE
  split
  · exact hx
  · exact hE _ _
theorem Es_lt {node : Nat} (hl : len ≤ 6) : ∀ (k : Nat) (E : Nat → Nat → Nat), k ≤ len + 1 → (∀ i s, E i s < 128) → ∀ i s, Es n len K L Z LT node k E i s < 128 := by
  intro k
  induction k with
  | zero => intro E _ hE; exact hE
  | succ k ih => intro E hk hE; exact ih _ (by omega) (upE_lt hE (eo_lt hE hl (by omega)))
theorem l1_X7_fits {node : Nat} {a2 : Value} (hd : 3 ≤ d) (hl : len ≤ 6) (hp : pat f p n K L Z) (hpd : 209 < p) (hn : n ≤ 60) (hno : node < n) (hK : ∀ i, i < n → 0 ≤ K i ∧ K i < 7) (hZ : ∀ i, i < n → 0 ≤ Z i ∧ Z i ≤ 60) (hLT : ∀ i, 0 ≤ LT i ∧ LT i < 256) (hL : ∀ i, 0 ≤ L i ∧ L i < 256) : ∀ (k : Nat) (E : Nat → Nat → Nat) (s : Int), k ≤ len + 1 → (∀ i s, E i s < 128) → s = (k : Int) - 1 → zex zTb d zqX7_fits 34 [.ref 147, .ref p, a2, .null, .int (I node), .int (I s)] [] (sett f len LT E) m = zex zTb d zqX7_fits 13 [.ref 147, .ref p, a2, .null, .int (I ((node : Int) + -1)), .int (I (-1))] [] (sett f len LT (Es n len K L Z LT node k E)) m := by
  intro k
  induction k with
  | zero =>
    intro E s _ hE hs
    obtain rfl : s = -1 := by omega
    rw [ze_X7_fits_34]
    simp (disch := omega) only [ze_X7_fits_0, ze_X7_fits_5, ze_X7_fits_9, ze_X7_fits_18, ze_X7_fits_24, ze_X7_fits_25, ze_X7_fits_28, ze_X7_fits_32, ze_X7_fits_39, ze_X7_fits_43, ze_X7_fits_46, ze_X7_fits_57, ze_X7_fits_58, ze_X7_fits_64, ze_X7_fits_70, ze_X7_fits_74, ze_X7_fits_76, ze_X7_fits_78, ze_X7_fits_82, ze_X7_fits_88, ze_X7_fits_92, zcal_v, zcal_n, zcalI_n, zco_O, zcf_O, zcs_O, zisc_O, zr8_A, zr8_S, zri_A, zri_B, zri_C, zrl_L, zrd_D, zrs_R, zgi_A, zgi_S, zgi_B, zgi_C, zgl_L, zgd_D, zisa_A, zisa_S, zisa_L, zisa_B, zisa_R, zln_A, zln_S, zln_L, zln_B, zln_R, zwi_A, zwl_L, zwd_D, zclr_i, zclr_r, zclr_l, zclr_d, zclr_n, zok_i, zok_l, zok_b0, zok_b1, I_add, I_sub, I_mul, I_neg, J_add, J_sub, J_mul, J_toI, I_ofNat, zib_I, I_cl, I_J, I_ne2, zup_same, zup_up, zup_ne, zc1_eqB, zc1_neB, zc1_eq, zc1_ne, zc1_lt, zc1_ge, zc1_gt, zc1_le, zc2_eq, zc2_ne, zc2_lt, zc2_ge, zc2_gt, zc2_le, lc_eq, lc_ne, lc_ge, lc_le, lc_gt, lc_lt, zret_b, zret_b0, zret_b1, List.getD_cons_zero, List.getD_cons_succ, List.length_cons, List.length_nil, List.set_cons_zero, List.set_cons_succ, Option.toList, List.cons_append, List.nil_append, Int.cast_ofNat_Int, decide_eq_true_eq, Bool.and_eq_true, and_self, true_and, and_true, if_true, if_false, not_true_eq_false, not_false_eq_true, reduceIte, Nat.reduceAdd, Nat.reduceLT, Nat.reduceLeDiff, Nat.reduceEqDiff, Int.reduceAdd, Int.reduceSub, Int.reduceMul, Int.reduceNeg, Int.reduceLT, Int.reduceLE, Int.reduceEq, Int.reduceToNat, Int.toNat_natCast, Nat.lt_add_one, Nat.zero_lt_succ]
    rfl
  | succ k ih =>
    intro E s hk hE hs
    obtain rfl : s = (k : Int) := by omega
    have hp' : pat (sett f len LT E) p n K L Z := ⟨by rw [sett_ne (by omega), hp.1], by rw [sett_ne (by omega), hp.2.1], by rw [sett_ne (by omega), hp.2.2.1], by rw [sett_ne (by omega), hp.2.2.2]⟩
    have t := tri_sett (f := f) (len := len) (LT := LT) (E := E)
    have e1 := s_X7_endsOf (d := d) (m := m) (node := node) (start := k) hd t hl hp' hn hE hno (by omega) (hK node hno) hZ hLT hL
    obtain ⟨t0, t1, t2, t3⟩ := t
    have t3' := t3 node (by omega)
    have b1 : (0 ≤ (node : Int) ∧ (node : Int) < 60) = True := by apply propext; exact ⟨fun _ => trivial, fun _ => ⟨by omega, by omega⟩⟩
    have b2 : (0 ≤ (k : Int) ∧ (k : Int) < 7) = True := by apply propext; exact ⟨fun _ => trivial, fun _ => ⟨by omega, by omega⟩⟩
    have b3 : ((k : Int) < 0) = False := by apply propext; exact ⟨fun z => by omega, False.elim⟩
    rw [ze_X7_fits_34]
    simp (disch := omega) only [ze_X7_fits_0, ze_X7_fits_5, ze_X7_fits_9, ze_X7_fits_18, ze_X7_fits_24, ze_X7_fits_25, ze_X7_fits_28, ze_X7_fits_32, ze_X7_fits_39, ze_X7_fits_43, ze_X7_fits_46, ze_X7_fits_57, ze_X7_fits_58, ze_X7_fits_64, ze_X7_fits_70, ze_X7_fits_74, ze_X7_fits_76, ze_X7_fits_78, ze_X7_fits_82, ze_X7_fits_88, ze_X7_fits_92, zcal_v, zcal_n, zcalI_n, zco_O, zcf_O, zcs_O, zisc_O, zr8_A, zr8_S, zri_A, zri_B, zri_C, zrl_L, zrd_D, zrs_R, zgi_A, zgi_S, zgi_B, zgi_C, zgl_L, zgd_D, zisa_A, zisa_S, zisa_L, zisa_B, zisa_R, zln_A, zln_S, zln_L, zln_B, zln_R, zwi_A, zwl_L, zwd_D, zclr_i, zclr_r, zclr_l, zclr_d, zclr_n, zok_i, zok_l, zok_b0, zok_b1, I_add, I_sub, I_mul, I_neg, J_add, J_sub, J_mul, J_toI, I_ofNat, zib_I, I_cl, I_J, I_ne2, zup_same, zup_up, zup_ne, zc1_eqB, zc1_neB, zc1_eq, zc1_ne, zc1_lt, zc1_ge, zc1_gt, zc1_le, zc2_eq, zc2_ne, zc2_lt, zc2_ge, zc2_gt, zc2_le, lc_eq, lc_ne, lc_ge, lc_le, lc_gt, lc_lt, zret_b, zret_b0, zret_b1, List.getD_cons_zero, List.getD_cons_succ, List.length_cons, List.length_nil, List.set_cons_zero, List.set_cons_succ, Option.toList, List.cons_append, List.nil_append, Int.cast_ofNat_Int, decide_eq_true_eq, Bool.and_eq_true, and_self, true_and, and_true, if_true, if_false, not_true_eq_false, not_false_eq_true, reduceIte, Nat.reduceAdd, Nat.reduceLT, Nat.reduceLeDiff, Nat.reduceEqDiff, Int.reduceAdd, Int.reduceSub, Int.reduceMul, Int.reduceNeg, Int.reduceLT, Int.reduceLE, Int.reduceEq, Int.reduceToNat, Int.toNat_natCast, Nat.lt_add_one, Nat.zero_lt_succ, t0, t2, t3', e1, b1, b2, b3, zrq_R, zgq_R, sett_e]
    exact ih _ _ (by omega) (upE_lt hE (eo_lt hE hl (by omega))) (by omega)
end
