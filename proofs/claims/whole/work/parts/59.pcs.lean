/-! MATHS and SPECS: the pieces -/
def spc (P : Nat → List Nat) (n : Nat) : Prop := ∀ i j, i < j → j < n → wpk (P i) < wpk (P j)
def wok (P : Nat → List Nat) (n : Nat) : Prop := ∀ i, i < n → wgood (P i) ∧ (P i).length ≤ 6
def pmem (P : Nat → List Nat) (n : Nat) (u : List Nat) : Prop := ∃ i, i < n ∧ P i = u
/-- what stands in the examples -/
def isp (n : Nat) (X : Nat → List Nat) (u : List Nat) : Prop := u = [] ∨ ∃ i, i < n ∧ ∃ a b, a < b ∧ b ≤ (X i).length ∧ u = wsl (X i) a b
def PC (n : Nat) (X : Nat → List Nat) (P : Nat → List Nat) (np : Nat) : Prop := spc P np ∧ wok P np ∧ ∀ u, pmem P np u ↔ isp n X u
theorem spc_le {P Q : Nat → List Nat} {n k : Nat} (h : spc P n) (h2 : spc Q k) (hs : ∀ u, pmem P n u → pmem Q k u) : n ≤ k := by
  have key : ∀ i, i < n → ∃ j, i ≤ j ∧ j < k ∧ Q j = P i := by
    intro i
    induction i with
    | zero =>
      intro hi
      obtain ⟨j, h3, h4⟩ := hs (P 0) ⟨0, hi, rfl⟩
      exact ⟨j, Nat.zero_le _, h3, h4⟩
    | succ i ih =>
      intro hi
      obtain ⟨j, h3, h4, h5⟩ := ih (by omega)
      obtain ⟨j', h6, h7⟩ := hs (P (i + 1)) ⟨i + 1, hi, rfl⟩
      refine ⟨j', ?_, h6, h7⟩
      have h8 := h i (i + 1) (by omega) hi
      rw [← h5, ← h7] at h8
      rcases Nat.lt_trichotomy j j' with h9 | h9 | h9
      · omega
      · subst h9; omega
      · have := h2 j' j h9 h4; omega
  cases n with
  | zero => exact Nat.zero_le _
  | succ n =>
    obtain ⟨j, h3, h4, -⟩ := key n (by omega)
    omega
theorem spc_eq {P Q : Nat → List Nat} {n k : Nat} (h : spc P n) (h2 : spc Q k) (hs : ∀ u, pmem P n u ↔ pmem Q k u) : n = k ∧ ∀ i, i < n → P i = Q i := by
  have e : n = k := Nat.le_antisymm (spc_le h h2 (fun u hu => (hs u).mp hu)) (spc_le h2 h (fun u hu => (hs u).mpr hu))
  subst e
  refine ⟨rfl, fun i => ?_⟩
  induction i using Nat.strongRecOn with
  | ind i ih =>
    intro hi
    obtain ⟨j, h3, h4⟩ := (hs (P i)).mp ⟨i, hi, rfl⟩
    obtain ⟨j', h5, h6⟩ := (hs (Q i)).mpr ⟨i, hi, rfl⟩
    have h7 : i ≤ j := by
      rcases Nat.lt_or_ge j i with h9 | h9
      · have h8 := ih j h9 h3
        have := h j i h9 hi
        rw [h8, h4] at this; omega
      · exact h9
    have h8 : i ≤ j' := by
      rcases Nat.lt_or_ge j' i with h9 | h9
      · have h10 := ih j' h9 h5
        have := h2 j' i h9 hi
        rw [← h10, h6] at this; omega
      · exact h9
    rcases Nat.lt_or_ge i j with h9 | h9
    · have h10 := h2 i j h9 h3
      rw [h4] at h10
      rcases Nat.lt_or_ge i j' with h11 | h11
      · have := h i j' h11 h5
        rw [h6] at this; omega
      · obtain rfl : j' = i := by omega
        exact h6
    · obtain rfl : j = i := by omega
      exact h4.symm
theorem PC_eq {P Q X : Nat → List Nat} {n np k : Nat} (h : PC n X P np) (h2 : PC n X Q k) : np = k ∧ ∀ i, i < np → P i = Q i := spc_eq h.1 h2.1 (fun u => (h.2.2 u).trans (h2.2.2 u).symm)
def pinw (P : Nat → List Nat) (n r : Nat) (w : List Nat) : Nat → List Nat := fun j => if j = r then w else if r < j ∧ j ≤ n then P (j - 1) else P j
theorem spc_place {P : Nat → List Nat} {x : Nat} : ∀ n, spc P n → ∃ r, r ≤ n ∧ (∀ i, i < r → wpk (P i) < x) ∧ ∀ i, r ≤ i → i < n → x ≤ wpk (P i)
  | 0, _ => ⟨0, Nat.le_refl _, fun i hi => by omega, fun i _ hi => by omega⟩
  | n + 1, h => by
    obtain ⟨r, h1, h2, h3⟩ := spc_place (P := P) (x := x) n (fun i j h4 h5 => h i j h4 (by omega))
    by_cases hx : wpk (P n) < x
    · refine ⟨n + 1, Nat.le_refl _, fun i hi => ?_, fun i _ hi => by omega⟩
      by_cases hn : i = n
      · subst hn; exact hx
      · have := h i n (by omega) (by omega)
        omega
    · refine ⟨r, by omega, h2, fun i hi hi2 => ?_⟩
      by_cases hn : i = n
      · subst hn; omega
      · exact h3 i hi (by omega)
theorem spc_pin {P : Nat → List Nat} {n r : Nat} {w : List Nat} (h : spc P n) (hr : r ≤ n) (h1 : ∀ i, i < r → wpk (P i) < wpk w) (h2 : ∀ i, r ≤ i → i < n → wpk w < wpk (P i)) : spc (pinw P n r w) (n + 1) := by
  intro i j hij hj
  unfold pinw
  by_cases hi : i = r
  · rw [if_pos hi, if_neg (by omega), if_pos (by omega)]
    exact h2 (j - 1) (by omega) (by omega)
  · rw [if_neg hi]
    by_cases hjr : j = r
    · rw [if_pos hjr, if_neg (by omega)]
      exact h1 i (by omega)
    · rw [if_neg hjr]
      by_cases h3 : r < i ∧ i ≤ n
      · rw [if_pos h3, if_pos (by omega)]
        exact h (i - 1) (j - 1) (by omega) (by omega)
      · rw [if_neg h3]
        by_cases h4 : r < j ∧ j ≤ n
        · rw [if_pos h4]
          rcases Nat.lt_or_ge i (j - 1) with h5 | h5
          · exact h i (j - 1) h5 (by omega)
          · omega
        · rw [if_neg h4]
          exact h i j hij (by omega)
theorem pin_mem {P : Nat → List Nat} {n r : Nat} {w : List Nat} (hr : r ≤ n) (u : List Nat) : pmem (pinw P n r w) (n + 1) u ↔ (pmem P n u ∨ u = w) := by
  constructor
  · rintro ⟨i, h1, h2⟩
    unfold pinw at h2
    by_cases hi : i = r
    · rw [if_pos hi] at h2; exact Or.inr h2.symm
    · rw [if_neg hi] at h2
      by_cases h3 : r < i ∧ i ≤ n
      · rw [if_pos h3] at h2; exact Or.inl ⟨i - 1, by omega, h2⟩
      · rw [if_neg h3] at h2; exact Or.inl ⟨i, by omega, h2⟩
  · rintro (⟨i, h1, h2⟩ | rfl)
    · by_cases hi : i < r
      · refine ⟨i, by omega, ?_⟩
        unfold pinw
        rw [if_neg (by omega), if_neg (by omega)]; exact h2
      · refine ⟨i + 1, by omega, ?_⟩
        unfold pinw
        rw [if_neg (by omega), if_pos (by omega)]; exact h2
    · exact ⟨r, by omega, if_pos rfl⟩
theorem wok_pin {P : Nat → List Nat} {n r : Nat} {w : List Nat} (h : wok P n) (hr : r ≤ n) (hw : wgood w ∧ w.length ≤ 6) : wok (pinw P n r w) (n + 1) := by
  intro i hi
  unfold pinw
  by_cases h1 : i = r
  · rw [if_pos h1]; exact hw
  · rw [if_neg h1]
    by_cases h2 : r < i ∧ i ≤ n
    · rw [if_pos h2]; exact h (i - 1) (by omega)
    · rw [if_neg h2]; exact h i (by omega)
/-- the pieces at p -/
def pcs (f : zF) (p : Nat) (P : Nat → List Nat) (n : Nat) : Prop := ∃ a : Nat → Int, f p = some (kO 3 [.ref (p + 1), .int (I n)]) ∧ f (p + 1) = some (kL 60 a) ∧ (∀ i, i < n → a i = ((wpk (P i) : Nat) : Int)) ∧ n ≤ 60 ∧ spc P n ∧ wok P n
theorem pcs_fre {a b p n : Nat} {f g : zF} {P : Nat → List Nat} (h : fre a b f g) (hp : p + 1 < a ∨ b < p) (ht : pcs f p P n) : pcs g p P n := by
  obtain ⟨c, h1, h2, h3⟩ := ht
  exact ⟨c, (h _ (by omega)).trans h1, (h _ (by omega)).trans h2, h3⟩
section
variable {d p n : Nat} {f : zF} {m : zM} {P : Nat → List Nat} {w l : List Nat}
theorem pcs_prg {a : Nat → Int} (h3 : ∀ i, i < n → a i = ((wpk (P i) : Nat) : Int)) (h5 : wok P n) : prg a n := by
  intro i hi
  have := wpk_48 (h5 i hi).1 (h5 i hi).2
  rw [h3 i hi]; omega
theorem s_ins (hd : 2 ≤ d) (h : pcs f p P n) (hw : wgood w ∧ w.length ≤ 6) : ∃ (f' : zF) (v : Int) (P' : Nat → List Nat) (n' : Nat), zrun zTb d 29 [.ref p, .long (J (wpk w))] f m = some (.inl (some (.int (I v))), f', m) ∧ pcs f' p P' n' ∧ fre p (p + 1) f f' ∧ (∀ u, pmem P n u → pmem P' n' u) ∧ ((v = 1 ∧ ∀ u, pmem P' n' u ↔ (pmem P n u ∨ u = w)) ∨ (v = 0 ∧ n' = 60 ∧ ¬ pmem P' n' w ∧ ∀ u, pmem P' n' u ↔ pmem P n u)) := by
  obtain ⟨a, h1, h2, h3, h4, h5, h6⟩ := h
  obtain ⟨r, r1, r2, r3⟩ := spc_place (x := wpk w) n h5
  have hx := wpk_48 hw.1 hw.2
  have hr : psp a n ((wpk w : Nat) : Int) r := ⟨r1, fun i hi => by rw [h3 i (by omega)]; have := r2 i hi; omega, fun i hi hi2 => by rw [h3 i hi2]; have := r3 i hi hi2; omega⟩
  have e := s_X3_insert (d := d) (f := f) (m := m) hd (by omega) h1 h2 h4 (pcs_prg h3 h6) (by omega) hr
  by_cases hc : r < n ∧ a r = ((wpk w : Nat) : Int)
  · rw [if_pos hc] at e
    have hm : pmem P n w := by
      refine ⟨r, hc.1, wpk_inj (h6 r hc.1).1 hw.1 ?_⟩
      have := hc.2
      rw [h3 r hc.1] at this
      omega
    exact ⟨f, 1, P, n, e, ⟨a, h1, h2, h3, h4, h5, h6⟩, fre_refl, fun u hu => hu, Or.inl ⟨rfl, fun u => ⟨Or.inl, fun z => z.elim id (fun z => z ▸ hm)⟩⟩⟩
  · rw [if_neg hc] at e
    have hm : ∀ i, r ≤ i → i < n → wpk w < wpk (P i) := by
      intro i hi hi2
      have h7 := r3 r (Nat.le_refl _) (by omega)
      have h8 : ¬ wpk (P r) = wpk w := fun z => hc ⟨by omega, by rw [h3 r (by omega), z]⟩
      rcases Nat.lt_or_ge r i with h9 | h9
      · have := h5 r i h9 hi2; omega
      · obtain rfl : i = r := by omega
        omega
    by_cases hn : n < 60
    · rw [if_pos hn] at e
      refine ⟨_, 1, pinw P n r w, n + 1, e, ⟨pin a n r ((wpk w : Nat) : Int), zup_same, ?_, ?_, by omega, spc_pin h5 r1 r2 hm, wok_pin h6 r1 hw⟩, fre_zup (fre_up (by omega) (by omega)) (by omega) (by omega), fun u hu => (pin_mem r1 u).mpr (Or.inl hu), Or.inl ⟨rfl, pin_mem r1⟩⟩
      · rw [zup_ne (by omega), zup_same]
      · intro i hi
        unfold pin pinw
        by_cases hi1 : i = r
        · rw [if_pos hi1, if_pos hi1]
        · rw [if_neg hi1, if_neg hi1]
          by_cases hi2 : r < i ∧ i ≤ n
          · rw [if_pos hi2, if_pos hi2]; exact h3 (i - 1) (by omega)
          · rw [if_neg hi2, if_neg hi2]; exact h3 i (by omega)
    · rw [if_neg hn] at e
      refine ⟨f, 0, P, n, e, ⟨a, h1, h2, h3, h4, h5, h6⟩, fre_refl, fun u hu => hu, Or.inr ⟨rfl, by omega, ?_, fun u => Iff.rfl⟩⟩
      rintro ⟨i, hi, rfl⟩
      rcases Nat.lt_or_ge i r with h9 | h9
      · have := r2 i h9; omega
      · have := hm i h9 hi; omega
theorem wsl_ok (hl : wgood l) (hl6 : l.length ≤ 6) {a b : Nat} : wgood (wsl l a b) ∧ (wsl l a b).length ≤ 6 := by
  refine ⟨wgood_drop (wgood_take hl b) a, ?_⟩
  unfold wsl
  rw [List.length_drop, List.length_take]; omega
theorem ti_in (hd : 2 ≤ d) (hl : wgood l) (hl6 : l.length ≤ 6) {s : Nat} (hs : s < l.length) : ∀ (j c : Nat) (f : zF) (P : Nat → List Nat) (n : Nat), c + j = l.length - s → pcs f p P n → ∃ (f' : zF) (v : Int) (P' : Nat → List Nat) (n' : Nat) (x7 : Value), zex zTb d zqX3_takeIn 28 [.ref p, .long (J (wpk l)), .null, .int (I 1), .int (I (l.length - s : Nat)), .long (J (wpk (l.drop s))), .null, .int (I c)] [] f m = zex zTb d zqX3_takeIn 8 [.ref p, .long (J (wpk l)), .null, .int (I v), .int (I (l.length - s - 1 : Nat)), .long (J (wpk (l.drop s))), .null, x7] [] f' m ∧ pcs f' p P' n' ∧ fre p (p + 1) f f' ∧ (∀ u, pmem P n u → pmem P' n' u) ∧ (∀ u, pmem P' n' u → (pmem P n u ∨ ∃ a b, a < b ∧ b ≤ l.length ∧ u = wsl l a b)) ∧ ((v = 1 ∧ ∀ b, s < b → b ≤ l.length - c → pmem P' n' (wsl l s b)) ∨ (v = 0 ∧ n' = 60 ∧ ∃ a b, a < b ∧ b ≤ l.length ∧ ¬ pmem P' n' (wsl l a b))) := by
  intro j
  induction j with
  | zero =>
    intro c f P n hc h
    obtain rfl : c = l.length - s := by omega
    refine ⟨f, 1, P, n, .int (I (l.length - s : Nat)), ?_, h, fre_refl, fun u hu => hu, fun u hu => Or.inl hu, Or.inl ⟨rfl, fun b h1 h2 => by omega⟩⟩
    rw [ze_X3_takeIn_28]
    simp (disch := omega) only [ze_X3_takeIn_0, ze_X3_takeIn_6, ze_X3_takeIn_12, ze_X3_takeIn_17, ze_X3_takeIn_23, ze_X3_takeIn_32, ze_X3_takeIn_39, ze_X3_takeIn_51, ze_X3_takeIn_58, ze_X3_takeIn_64, zcal_x, zfh_nil, zfh_cons, zset_0, zset_1, zset_s, zcal_v, zcal_n, zcalI_n, zco_O, zcf_O, zcs_O, zisc_O, zr8_A, zr8_S, zri_A, zri_B, zri_C, zrl_L, zrd_D, zrs_R, zgi_A, zgi_S, zgi_B, zgi_C, zgl_L, zgd_D, zisa_A, zisa_S, zisa_L, zisa_B, zisa_R, zln_A, zln_S, zln_L, zln_B, zln_R, zwi_A, zwl_L, zwd_D, zclr_i, zclr_r, zclr_l, zclr_d, zclr_n, zok_i, zok_l, zok_b0, zok_b1, I_add, I_sub, I_mul, I_neg, J_add, J_sub, J_mul, J_toI, I_ofNat, I_cl, I_J, I_ne2, zup_same, zup_up, zup_ne, zc1_eqB, zc1_neB, zret_b, zret_b0, zret_b1, List.getD_cons_zero, List.getD_cons_succ, List.length_cons, List.length_nil, List.set_cons_zero, List.set_cons_succ, Option.toList, List.cons_append, List.nil_append, Int.cast_ofNat_Int, decide_eq_true_eq, Bool.and_eq_true, and_self, true_and, and_true, if_true, if_false, not_true_eq_false, not_false_eq_true, ↓reduceIte, Nat.reduceAdd, Nat.reduceLT, Nat.reduceLeDiff, Nat.reduceEqDiff, Int.reduceAdd, Int.reduceSub, Int.reduceMul, Int.reduceNeg, Int.reduceLT, Int.reduceLE, Int.reduceEq, Int.reduceToNat, Int.toNat_natCast, Nat.lt_add_one, Nat.zero_lt_succ, q1_eq_t, q1_eq_f, q2_eq_t, q2_eq_f, ql_eq_t, ql_eq_f, q1_ne_t, q1_ne_f, q2_ne_t, q2_ne_f, ql_ne_t, ql_ne_f, q1_lt_t, q1_lt_f, q2_lt_t, q2_lt_f, ql_lt_t, ql_lt_f, q1_ge_t, q1_ge_f, q2_ge_t, q2_ge_f, ql_ge_t, ql_ge_f, q1_gt_t, q1_gt_f, q2_gt_t, q2_gt_f, ql_gt_t, ql_gt_f, q1_le_t, q1_le_f, q2_le_t, q2_le_f, ql_le_t, ql_le_f, zib_t, qb_t, qb_f, nk_add, nk_mul, nk_sub, nk_d1, nk_d0, nk_toNat, nk_r1, nk_l1, nk_m1, nk_n1, nk_s1, nk_t1, nk_r2, nk_l2, nk_m2, nk_n2, nk_s2, nk_t2, nk_r3, nk_l3, nk_m3, nk_n3, nk_s3, nk_t3, nk_r4, nk_l4, nk_m4, nk_n4, nk_s4, nk_t4, nk_r6, nk_l6, nk_m6, nk_n6, nk_s6, nk_t6, nk_r7, nk_l7, nk_m7, nk_n7, nk_s7, nk_t7, nk_r8, nk_l8, nk_m8, nk_n8, nk_s8, nk_t8, nk_r12, nk_l12, nk_m12, nk_n12, nk_s12, nk_t12, nk_r31, nk_l31, nk_m31, nk_n31, nk_s31, nk_t31, nk_r32, nk_l32, nk_m32, nk_n32, nk_s32, nk_t32, nk_r59, nk_l59, nk_m59, nk_n59, nk_s59, nk_t59, nk_r60, nk_l60, nk_m60, nk_n60, nk_s60, nk_t60, nk_r96, nk_l96, nk_m96, nk_n96, nk_s96, nk_t96, nk_r97, nk_l97, nk_m97, nk_n97, nk_s97, nk_t97, nk_r120, nk_l120, nk_m120, nk_n120, nk_s120, nk_t120, nk_r240, nk_l240, nk_m240, nk_n240, nk_s240, nk_t240, nk_r255, nk_l255, nk_m255, nk_n255, nk_s255, nk_t255, nk_r256, nk_l256, nk_m256, nk_n256, nk_s256, nk_t256, Nat.add_zero, Nat.zero_add, Nat.mul_one, Nat.one_mul, Nat.mul_zero, Nat.zero_mul, Nat.sub_zero, Nat.reduceSub, Nat.reduceMul, Nat.add_sub_cancel, Bool.false_eq_true, Int.add_zero, Int.zero_add, Int.sub_zero]
  | succ j ih =>
    intro c f P n hc h
    have hdl : (l.drop s).length = l.length - s := List.length_drop ..
    have hsh : wpk (l.drop s) / 2 ^ (8 * c) = wpk (wsl l s (l.length - c)) := by
      have := wpk_take (wgood_drop hl s) (i := l.length - s - c) (by rw [hdl]; omega)
      rw [hdl, show l.length - s - (l.length - s - c) = c by omega] at this
      rw [p256, this, List.take_drop, show s + (l.length - s - c) = l.length - c by omega]
      rfl
    have hwk := wsl_ok hl hl6 (a := s) (b := l.length - c)
    have hlt : s < l.length - c := by omega
    have hle : l.length - c ≤ l.length := by omega
    have h48 := wpk_48 (wgood_drop hl s) (by rw [hdl]; omega)
    obtain ⟨f1, v, P1, n1, e1, e2, e3, e4, e5⟩ := s_ins (d := d) (f := f) (m := m) hd h hwk
    have e2' := e2
    have h' := h
    obtain ⟨a, h1, -⟩ := h'
    rcases e5 with ⟨rfl, e5⟩ | ⟨rfl, e5, e6, e7⟩
    · obtain ⟨f2, v2, P2, n2, x7, i1, i2, i3, i4, i5, i6⟩ := ih (c + 1) f1 P1 n1 (by omega) e2
      refine ⟨f2, v2, P2, n2, x7, ?_, i2, fre_trans e3 i3, fun u hu => i4 u (e4 u hu), ?_, ?_⟩
      · rw [ze_X3_takeIn_28]
        refine Eq.trans ?_ i1
        simp (disch := omega) only [ze_X3_takeIn_0, ze_X3_takeIn_6, ze_X3_takeIn_12, ze_X3_takeIn_17, ze_X3_takeIn_23, ze_X3_takeIn_32, ze_X3_takeIn_39, ze_X3_takeIn_51, ze_X3_takeIn_58, ze_X3_takeIn_64, zcal_x, zfh_nil, zfh_cons, zset_0, zset_1, zset_s, zcal_v, zcal_n, zcalI_n, zco_O, zcf_O, zcs_O, zisc_O, zr8_A, zr8_S, zri_A, zri_B, zri_C, zrl_L, zrd_D, zrs_R, zgi_A, zgi_S, zgi_B, zgi_C, zgl_L, zgd_D, zisa_A, zisa_S, zisa_L, zisa_B, zisa_R, zln_A, zln_S, zln_L, zln_B, zln_R, zwi_A, zwl_L, zwd_D, zclr_i, zclr_r, zclr_l, zclr_d, zclr_n, zok_i, zok_l, zok_b0, zok_b1, I_add, I_sub, I_mul, I_neg, J_add, J_sub, J_mul, J_toI, I_ofNat, I_cl, I_J, I_ne2, zup_same, zup_up, zup_ne, zc1_eqB, zc1_neB, zret_b, zret_b0, zret_b1, List.getD_cons_zero, List.getD_cons_succ, List.length_cons, List.length_nil, List.set_cons_zero, List.set_cons_succ, Option.toList, List.cons_append, List.nil_append, Int.cast_ofNat_Int, decide_eq_true_eq, Bool.and_eq_true, and_self, true_and, and_true, if_true, if_false, not_true_eq_false, not_false_eq_true, ↓reduceIte, Nat.reduceAdd, Nat.reduceLT, Nat.reduceLeDiff, Nat.reduceEqDiff, Int.reduceAdd, Int.reduceSub, Int.reduceMul, Int.reduceNeg, Int.reduceLT, Int.reduceLE, Int.reduceEq, Int.reduceToNat, Int.toNat_natCast, Nat.lt_add_one, Nat.zero_lt_succ, q1_eq_t, q1_eq_f, q2_eq_t, q2_eq_f, ql_eq_t, ql_eq_f, q1_ne_t, q1_ne_f, q2_ne_t, q2_ne_f, ql_ne_t, ql_ne_f, q1_lt_t, q1_lt_f, q2_lt_t, q2_lt_f, ql_lt_t, ql_lt_f, q1_ge_t, q1_ge_f, q2_ge_t, q2_ge_f, ql_ge_t, ql_ge_f, q1_gt_t, q1_gt_f, q2_gt_t, q2_gt_f, ql_gt_t, ql_gt_f, q1_le_t, q1_le_f, q2_le_t, q2_le_f, ql_le_t, ql_le_f, zib_t, qb_t, qb_f, nk_add, nk_mul, nk_sub, nk_d1, nk_d0, nk_toNat, nk_r1, nk_l1, nk_m1, nk_n1, nk_s1, nk_t1, nk_r2, nk_l2, nk_m2, nk_n2, nk_s2, nk_t2, nk_r3, nk_l3, nk_m3, nk_n3, nk_s3, nk_t3, nk_r4, nk_l4, nk_m4, nk_n4, nk_s4, nk_t4, nk_r6, nk_l6, nk_m6, nk_n6, nk_s6, nk_t6, nk_r7, nk_l7, nk_m7, nk_n7, nk_s7, nk_t7, nk_r8, nk_l8, nk_m8, nk_n8, nk_s8, nk_t8, nk_r12, nk_l12, nk_m12, nk_n12, nk_s12, nk_t12, nk_r31, nk_l31, nk_m31, nk_n31, nk_s31, nk_t31, nk_r32, nk_l32, nk_m32, nk_n32, nk_s32, nk_t32, nk_r59, nk_l59, nk_m59, nk_n59, nk_s59, nk_t59, nk_r60, nk_l60, nk_m60, nk_n60, nk_s60, nk_t60, nk_r96, nk_l96, nk_m96, nk_n96, nk_s96, nk_t96, nk_r97, nk_l97, nk_m97, nk_n97, nk_s97, nk_t97, nk_r120, nk_l120, nk_m120, nk_n120, nk_s120, nk_t120, nk_r240, nk_l240, nk_m240, nk_n240, nk_s240, nk_t240, nk_r255, nk_l255, nk_m255, nk_n255, nk_s255, nk_t255, nk_r256, nk_l256, nk_m256, nk_n256, nk_s256, nk_t256, Nat.add_zero, Nat.zero_add, Nat.mul_one, Nat.one_mul, Nat.mul_zero, Nat.zero_mul, Nat.sub_zero, Nat.reduceSub, Nat.reduceMul, Nat.add_sub_cancel, Bool.false_eq_true, Int.add_zero, Int.zero_add, Int.sub_zero, h1, J_ushrI, hsh, e1]
      · intro u hu
        rcases i5 u hu with h3 | h3
        · rcases (e5 u).mp h3 with h4 | h4
          · exact Or.inl h4
          · exact Or.inr ⟨s, l.length - c, hlt, hle, h4⟩
        · exact Or.inr h3
      · rcases i6 with ⟨h3, h4⟩ | h3
        · refine Or.inl ⟨h3, fun b hb1 hb2 => ?_⟩
          by_cases hb : b = l.length - c
          · subst hb
            exact i4 _ ((e5 _).mpr (Or.inr rfl))
          · exact h4 b hb1 (by omega)
        · exact Or.inr h3
    · refine ⟨f1, 0, P1, n1, .int (I (c + 1 : Nat)), ?_, e2, e3, e4, fun u hu => Or.inl ((e7 u).mp hu), Or.inr ⟨rfl, e5, s, l.length - c, hlt, hle, e6⟩⟩
      rw [ze_X3_takeIn_28]
      simp (disch := omega) only [ze_X3_takeIn_0, ze_X3_takeIn_6, ze_X3_takeIn_12, ze_X3_takeIn_17, ze_X3_takeIn_23, ze_X3_takeIn_32, ze_X3_takeIn_39, ze_X3_takeIn_51, ze_X3_takeIn_58, ze_X3_takeIn_64, zcal_x, zfh_nil, zfh_cons, zset_0, zset_1, zset_s, zcal_v, zcal_n, zcalI_n, zco_O, zcf_O, zcs_O, zisc_O, zr8_A, zr8_S, zri_A, zri_B, zri_C, zrl_L, zrd_D, zrs_R, zgi_A, zgi_S, zgi_B, zgi_C, zgl_L, zgd_D, zisa_A, zisa_S, zisa_L, zisa_B, zisa_R, zln_A, zln_S, zln_L, zln_B, zln_R, zwi_A, zwl_L, zwd_D, zclr_i, zclr_r, zclr_l, zclr_d, zclr_n, zok_i, zok_l, zok_b0, zok_b1, I_add, I_sub, I_mul, I_neg, J_add, J_sub, J_mul, J_toI, I_ofNat, I_cl, I_J, I_ne2, zup_same, zup_up, zup_ne, zc1_eqB, zc1_neB, zret_b, zret_b0, zret_b1, List.getD_cons_zero, List.getD_cons_succ, List.length_cons, List.length_nil, List.set_cons_zero, List.set_cons_succ, Option.toList, List.cons_append, List.nil_append, Int.cast_ofNat_Int, decide_eq_true_eq, Bool.and_eq_true, and_self, true_and, and_true, if_true, if_false, not_true_eq_false, not_false_eq_true, ↓reduceIte, Nat.reduceAdd, Nat.reduceLT, Nat.reduceLeDiff, Nat.reduceEqDiff, Int.reduceAdd, Int.reduceSub, Int.reduceMul, Int.reduceNeg, Int.reduceLT, Int.reduceLE, Int.reduceEq, Int.reduceToNat, Int.toNat_natCast, Nat.lt_add_one, Nat.zero_lt_succ, q1_eq_t, q1_eq_f, q2_eq_t, q2_eq_f, ql_eq_t, ql_eq_f, q1_ne_t, q1_ne_f, q2_ne_t, q2_ne_f, ql_ne_t, ql_ne_f, q1_lt_t, q1_lt_f, q2_lt_t, q2_lt_f, ql_lt_t, ql_lt_f, q1_ge_t, q1_ge_f, q2_ge_t, q2_ge_f, ql_ge_t, ql_ge_f, q1_gt_t, q1_gt_f, q2_gt_t, q2_gt_f, ql_gt_t, ql_gt_f, q1_le_t, q1_le_f, q2_le_t, q2_le_f, ql_le_t, ql_le_f, zib_t, qb_t, qb_f, nk_add, nk_mul, nk_sub, nk_d1, nk_d0, nk_toNat, nk_r1, nk_l1, nk_m1, nk_n1, nk_s1, nk_t1, nk_r2, nk_l2, nk_m2, nk_n2, nk_s2, nk_t2, nk_r3, nk_l3, nk_m3, nk_n3, nk_s3, nk_t3, nk_r4, nk_l4, nk_m4, nk_n4, nk_s4, nk_t4, nk_r6, nk_l6, nk_m6, nk_n6, nk_s6, nk_t6, nk_r7, nk_l7, nk_m7, nk_n7, nk_s7, nk_t7, nk_r8, nk_l8, nk_m8, nk_n8, nk_s8, nk_t8, nk_r12, nk_l12, nk_m12, nk_n12, nk_s12, nk_t12, nk_r31, nk_l31, nk_m31, nk_n31, nk_s31, nk_t31, nk_r32, nk_l32, nk_m32, nk_n32, nk_s32, nk_t32, nk_r59, nk_l59, nk_m59, nk_n59, nk_s59, nk_t59, nk_r60, nk_l60, nk_m60, nk_n60, nk_s60, nk_t60, nk_r96, nk_l96, nk_m96, nk_n96, nk_s96, nk_t96, nk_r97, nk_l97, nk_m97, nk_n97, nk_s97, nk_t97, nk_r120, nk_l120, nk_m120, nk_n120, nk_s120, nk_t120, nk_r240, nk_l240, nk_m240, nk_n240, nk_s240, nk_t240, nk_r255, nk_l255, nk_m255, nk_n255, nk_s255, nk_t255, nk_r256, nk_l256, nk_m256, nk_n256, nk_s256, nk_t256, Nat.add_zero, Nat.zero_add, Nat.mul_one, Nat.one_mul, Nat.mul_zero, Nat.zero_mul, Nat.sub_zero, Nat.reduceSub, Nat.reduceMul, Nat.add_sub_cancel, Bool.false_eq_true, Int.add_zero, Int.zero_add, Int.sub_zero, h1, J_ushrI, hsh, e1]
      rw [ze_X3_takeIn_28]
      simp (disch := omega) only [ze_X3_takeIn_0, ze_X3_takeIn_6, ze_X3_takeIn_12, ze_X3_takeIn_17, ze_X3_takeIn_23, ze_X3_takeIn_32, ze_X3_takeIn_39, ze_X3_takeIn_51, ze_X3_takeIn_58, ze_X3_takeIn_64, zcal_x, zfh_nil, zfh_cons, zset_0, zset_1, zset_s, zcal_v, zcal_n, zcalI_n, zco_O, zcf_O, zcs_O, zisc_O, zr8_A, zr8_S, zri_A, zri_B, zri_C, zrl_L, zrd_D, zrs_R, zgi_A, zgi_S, zgi_B, zgi_C, zgl_L, zgd_D, zisa_A, zisa_S, zisa_L, zisa_B, zisa_R, zln_A, zln_S, zln_L, zln_B, zln_R, zwi_A, zwl_L, zwd_D, zclr_i, zclr_r, zclr_l, zclr_d, zclr_n, zok_i, zok_l, zok_b0, zok_b1, I_add, I_sub, I_mul, I_neg, J_add, J_sub, J_mul, J_toI, I_ofNat, I_cl, I_J, I_ne2, zup_same, zup_up, zup_ne, zc1_eqB, zc1_neB, zret_b, zret_b0, zret_b1, List.getD_cons_zero, List.getD_cons_succ, List.length_cons, List.length_nil, List.set_cons_zero, List.set_cons_succ, Option.toList, List.cons_append, List.nil_append, Int.cast_ofNat_Int, decide_eq_true_eq, Bool.and_eq_true, and_self, true_and, and_true, if_true, if_false, not_true_eq_false, not_false_eq_true, ↓reduceIte, Nat.reduceAdd, Nat.reduceLT, Nat.reduceLeDiff, Nat.reduceEqDiff, Int.reduceAdd, Int.reduceSub, Int.reduceMul, Int.reduceNeg, Int.reduceLT, Int.reduceLE, Int.reduceEq, Int.reduceToNat, Int.toNat_natCast, Nat.lt_add_one, Nat.zero_lt_succ, q1_eq_t, q1_eq_f, q2_eq_t, q2_eq_f, ql_eq_t, ql_eq_f, q1_ne_t, q1_ne_f, q2_ne_t, q2_ne_f, ql_ne_t, ql_ne_f, q1_lt_t, q1_lt_f, q2_lt_t, q2_lt_f, ql_lt_t, ql_lt_f, q1_ge_t, q1_ge_f, q2_ge_t, q2_ge_f, ql_ge_t, ql_ge_f, q1_gt_t, q1_gt_f, q2_gt_t, q2_gt_f, ql_gt_t, ql_gt_f, q1_le_t, q1_le_f, q2_le_t, q2_le_f, ql_le_t, ql_le_f, zib_t, qb_t, qb_f, nk_add, nk_mul, nk_sub, nk_d1, nk_d0, nk_toNat, nk_r1, nk_l1, nk_m1, nk_n1, nk_s1, nk_t1, nk_r2, nk_l2, nk_m2, nk_n2, nk_s2, nk_t2, nk_r3, nk_l3, nk_m3, nk_n3, nk_s3, nk_t3, nk_r4, nk_l4, nk_m4, nk_n4, nk_s4, nk_t4, nk_r6, nk_l6, nk_m6, nk_n6, nk_s6, nk_t6, nk_r7, nk_l7, nk_m7, nk_n7, nk_s7, nk_t7, nk_r8, nk_l8, nk_m8, nk_n8, nk_s8, nk_t8, nk_r12, nk_l12, nk_m12, nk_n12, nk_s12, nk_t12, nk_r31, nk_l31, nk_m31, nk_n31, nk_s31, nk_t31, nk_r32, nk_l32, nk_m32, nk_n32, nk_s32, nk_t32, nk_r59, nk_l59, nk_m59, nk_n59, nk_s59, nk_t59, nk_r60, nk_l60, nk_m60, nk_n60, nk_s60, nk_t60, nk_r96, nk_l96, nk_m96, nk_n96, nk_s96, nk_t96, nk_r97, nk_l97, nk_m97, nk_n97, nk_s97, nk_t97, nk_r120, nk_l120, nk_m120, nk_n120, nk_s120, nk_t120, nk_r240, nk_l240, nk_m240, nk_n240, nk_s240, nk_t240, nk_r255, nk_l255, nk_m255, nk_n255, nk_s255, nk_t255, nk_r256, nk_l256, nk_m256, nk_n256, nk_s256, nk_t256, Nat.add_zero, Nat.zero_add, Nat.mul_one, Nat.one_mul, Nat.mul_zero, Nat.zero_mul, Nat.sub_zero, Nat.reduceSub, Nat.reduceMul, Nat.add_sub_cancel, Bool.false_eq_true, Int.add_zero, Int.zero_add, Int.sub_zero]
theorem ti_out (hd : 2 ≤ d) (hl : wgood l) (hl6 : l.length ≤ 6) : ∀ (k : Nat) (f : zF) (P : Nat → List Nat) (n : Nat) (a5 a6 a7 : Value), k ≤ l.length → pcs f p P n → ∃ (f' : zF) (v : Int) (P' : Nat → List Nat) (n' : Nat), zex zTb d zqX3_takeIn 8 [.ref p, .long (J (wpk l)), .null, .int (I 1), .int (I k), a5, a6, a7] [] f m = some (.inl (some (.int (I v))), f', m) ∧ pcs f' p P' n' ∧ fre p (p + 1) f f' ∧ (∀ u, pmem P n u → pmem P' n' u) ∧ (∀ u, pmem P' n' u → (pmem P n u ∨ ∃ a b, a < b ∧ b ≤ l.length ∧ u = wsl l a b)) ∧ ((v = 1 ∧ ∀ a b, l.length - k ≤ a → a < b → b ≤ l.length → pmem P' n' (wsl l a b)) ∨ (v = 0 ∧ n' = 60 ∧ ∃ a b, a < b ∧ b ≤ l.length ∧ ¬ pmem P' n' (wsl l a b))) := by
  intro k
  induction k with
  | zero =>
    intro f P n a5 a6 a7 hk h
    refine ⟨f, 1, P, n, ?_, h, fre_refl, fun u hu => hu, fun u hu => Or.inl hu, Or.inl ⟨rfl, fun a b h1 h2 h3 => by omega⟩⟩
    rw [ze_X3_takeIn_8]
    simp (disch := omega) only [ze_X3_takeIn_0, ze_X3_takeIn_6, ze_X3_takeIn_12, ze_X3_takeIn_17, ze_X3_takeIn_23, ze_X3_takeIn_32, ze_X3_takeIn_39, ze_X3_takeIn_51, ze_X3_takeIn_58, ze_X3_takeIn_64, zcal_x, zfh_nil, zfh_cons, zset_0, zset_1, zset_s, zcal_v, zcal_n, zcalI_n, zco_O, zcf_O, zcs_O, zisc_O, zr8_A, zr8_S, zri_A, zri_B, zri_C, zrl_L, zrd_D, zrs_R, zgi_A, zgi_S, zgi_B, zgi_C, zgl_L, zgd_D, zisa_A, zisa_S, zisa_L, zisa_B, zisa_R, zln_A, zln_S, zln_L, zln_B, zln_R, zwi_A, zwl_L, zwd_D, zclr_i, zclr_r, zclr_l, zclr_d, zclr_n, zok_i, zok_l, zok_b0, zok_b1, I_add, I_sub, I_mul, I_neg, J_add, J_sub, J_mul, J_toI, I_ofNat, I_cl, I_J, I_ne2, zup_same, zup_up, zup_ne, zc1_eqB, zc1_neB, zret_b, zret_b0, zret_b1, List.getD_cons_zero, List.getD_cons_succ, List.length_cons, List.length_nil, List.set_cons_zero, List.set_cons_succ, Option.toList, List.cons_append, List.nil_append, Int.cast_ofNat_Int, decide_eq_true_eq, Bool.and_eq_true, and_self, true_and, and_true, if_true, if_false, not_true_eq_false, not_false_eq_true, ↓reduceIte, Nat.reduceAdd, Nat.reduceLT, Nat.reduceLeDiff, Nat.reduceEqDiff, Int.reduceAdd, Int.reduceSub, Int.reduceMul, Int.reduceNeg, Int.reduceLT, Int.reduceLE, Int.reduceEq, Int.reduceToNat, Int.toNat_natCast, Nat.lt_add_one, Nat.zero_lt_succ, q1_eq_t, q1_eq_f, q2_eq_t, q2_eq_f, ql_eq_t, ql_eq_f, q1_ne_t, q1_ne_f, q2_ne_t, q2_ne_f, ql_ne_t, ql_ne_f, q1_lt_t, q1_lt_f, q2_lt_t, q2_lt_f, ql_lt_t, ql_lt_f, q1_ge_t, q1_ge_f, q2_ge_t, q2_ge_f, ql_ge_t, ql_ge_f, q1_gt_t, q1_gt_f, q2_gt_t, q2_gt_f, ql_gt_t, ql_gt_f, q1_le_t, q1_le_f, q2_le_t, q2_le_f, ql_le_t, ql_le_f, zib_t, qb_t, qb_f, nk_add, nk_mul, nk_sub, nk_d1, nk_d0, nk_toNat, nk_r1, nk_l1, nk_m1, nk_n1, nk_s1, nk_t1, nk_r2, nk_l2, nk_m2, nk_n2, nk_s2, nk_t2, nk_r3, nk_l3, nk_m3, nk_n3, nk_s3, nk_t3, nk_r4, nk_l4, nk_m4, nk_n4, nk_s4, nk_t4, nk_r6, nk_l6, nk_m6, nk_n6, nk_s6, nk_t6, nk_r7, nk_l7, nk_m7, nk_n7, nk_s7, nk_t7, nk_r8, nk_l8, nk_m8, nk_n8, nk_s8, nk_t8, nk_r12, nk_l12, nk_m12, nk_n12, nk_s12, nk_t12, nk_r31, nk_l31, nk_m31, nk_n31, nk_s31, nk_t31, nk_r32, nk_l32, nk_m32, nk_n32, nk_s32, nk_t32, nk_r59, nk_l59, nk_m59, nk_n59, nk_s59, nk_t59, nk_r60, nk_l60, nk_m60, nk_n60, nk_s60, nk_t60, nk_r96, nk_l96, nk_m96, nk_n96, nk_s96, nk_t96, nk_r97, nk_l97, nk_m97, nk_n97, nk_s97, nk_t97, nk_r120, nk_l120, nk_m120, nk_n120, nk_s120, nk_t120, nk_r240, nk_l240, nk_m240, nk_n240, nk_s240, nk_t240, nk_r255, nk_l255, nk_m255, nk_n255, nk_s255, nk_t255, nk_r256, nk_l256, nk_m256, nk_n256, nk_s256, nk_t256, Nat.add_zero, Nat.zero_add, Nat.mul_one, Nat.one_mul, Nat.mul_zero, Nat.zero_mul, Nat.sub_zero, Nat.reduceSub, Nat.reduceMul, Nat.add_sub_cancel, Bool.false_eq_true, Int.add_zero, Int.zero_add, Int.sub_zero]
  | succ k ih =>
    intro f P n a5 a6 a7 hk h
    have e1 := s_X8_ending (d := d) (f := f) (m := m) (w := wpk l) (k := ((k + 1 : Nat) : Int)) (by omega) (by omega) (by omega)
    have hen : wpk l % 2 ^ (8 * ((k + 1 : Nat) : Int)).toNat = wpk (l.drop (l.length - (k + 1))) := by
      rw [show (8 * ((k + 1 : Nat) : Int)).toNat = 8 * (k + 1) by omega, p256]
      have := wpk_drop hl (i := l.length - (k + 1)) (by omega)
      rw [show l.length - (l.length - (k + 1)) = k + 1 by omega] at this
      exact this
    rw [hen] at e1
    obtain ⟨f1, v, P1, n1, x7, i1, i2, i3, i4, i5, i6⟩ := ti_in (d := d) (m := m) (p := p) hd hl hl6 (s := l.length - (k + 1)) (by omega) (l.length - (l.length - (k + 1))) 0 f P n (by omega) h
    rw [show l.length - (l.length - (k + 1)) = k + 1 by omega, show k + 1 - 1 = k from rfl] at i1
    rcases i6 with ⟨rfl, i6⟩ | ⟨rfl, i6⟩
    · obtain ⟨f2, v2, P2, n2, j1, j2, j3, j4, j5, j6⟩ := ih f1 P1 n1 (.long (J (wpk (l.drop (l.length - (k + 1)))))) .null x7 (by omega) i2
      refine ⟨f2, v2, P2, n2, ?_, j2, fre_trans i3 j3, fun u hu => j4 u (i4 u hu), ?_, ?_⟩
      · rw [ze_X3_takeIn_8]
        refine Eq.trans (Eq.trans ?_ i1) j1
        simp (disch := omega) only [ze_X3_takeIn_0, ze_X3_takeIn_6, ze_X3_takeIn_12, ze_X3_takeIn_17, ze_X3_takeIn_23, ze_X3_takeIn_32, ze_X3_takeIn_39, ze_X3_takeIn_51, ze_X3_takeIn_58, ze_X3_takeIn_64, zcal_x, zfh_nil, zfh_cons, zset_0, zset_1, zset_s, zcal_v, zcal_n, zcalI_n, zco_O, zcf_O, zcs_O, zisc_O, zr8_A, zr8_S, zri_A, zri_B, zri_C, zrl_L, zrd_D, zrs_R, zgi_A, zgi_S, zgi_B, zgi_C, zgl_L, zgd_D, zisa_A, zisa_S, zisa_L, zisa_B, zisa_R, zln_A, zln_S, zln_L, zln_B, zln_R, zwi_A, zwl_L, zwd_D, zclr_i, zclr_r, zclr_l, zclr_d, zclr_n, zok_i, zok_l, zok_b0, zok_b1, I_add, I_sub, I_mul, I_neg, J_add, J_sub, J_mul, J_toI, I_ofNat, I_cl, I_J, I_ne2, zup_same, zup_up, zup_ne, zc1_eqB, zc1_neB, zret_b, zret_b0, zret_b1, List.getD_cons_zero, List.getD_cons_succ, List.length_cons, List.length_nil, List.set_cons_zero, List.set_cons_succ, Option.toList, List.cons_append, List.nil_append, Int.cast_ofNat_Int, decide_eq_true_eq, Bool.and_eq_true, and_self, true_and, and_true, if_true, if_false, not_true_eq_false, not_false_eq_true, ↓reduceIte, Nat.reduceAdd, Nat.reduceLT, Nat.reduceLeDiff, Nat.reduceEqDiff, Int.reduceAdd, Int.reduceSub, Int.reduceMul, Int.reduceNeg, Int.reduceLT, Int.reduceLE, Int.reduceEq, Int.reduceToNat, Int.toNat_natCast, Nat.lt_add_one, Nat.zero_lt_succ, q1_eq_t, q1_eq_f, q2_eq_t, q2_eq_f, ql_eq_t, ql_eq_f, q1_ne_t, q1_ne_f, q2_ne_t, q2_ne_f, ql_ne_t, ql_ne_f, q1_lt_t, q1_lt_f, q2_lt_t, q2_lt_f, ql_lt_t, ql_lt_f, q1_ge_t, q1_ge_f, q2_ge_t, q2_ge_f, ql_ge_t, ql_ge_f, q1_gt_t, q1_gt_f, q2_gt_t, q2_gt_f, ql_gt_t, ql_gt_f, q1_le_t, q1_le_f, q2_le_t, q2_le_f, ql_le_t, ql_le_f, zib_t, qb_t, qb_f, nk_add, nk_mul, nk_sub, nk_d1, nk_d0, nk_toNat, nk_r1, nk_l1, nk_m1, nk_n1, nk_s1, nk_t1, nk_r2, nk_l2, nk_m2, nk_n2, nk_s2, nk_t2, nk_r3, nk_l3, nk_m3, nk_n3, nk_s3, nk_t3, nk_r4, nk_l4, nk_m4, nk_n4, nk_s4, nk_t4, nk_r6, nk_l6, nk_m6, nk_n6, nk_s6, nk_t6, nk_r7, nk_l7, nk_m7, nk_n7, nk_s7, nk_t7, nk_r8, nk_l8, nk_m8, nk_n8, nk_s8, nk_t8, nk_r12, nk_l12, nk_m12, nk_n12, nk_s12, nk_t12, nk_r31, nk_l31, nk_m31, nk_n31, nk_s31, nk_t31, nk_r32, nk_l32, nk_m32, nk_n32, nk_s32, nk_t32, nk_r59, nk_l59, nk_m59, nk_n59, nk_s59, nk_t59, nk_r60, nk_l60, nk_m60, nk_n60, nk_s60, nk_t60, nk_r96, nk_l96, nk_m96, nk_n96, nk_s96, nk_t96, nk_r97, nk_l97, nk_m97, nk_n97, nk_s97, nk_t97, nk_r120, nk_l120, nk_m120, nk_n120, nk_s120, nk_t120, nk_r240, nk_l240, nk_m240, nk_n240, nk_s240, nk_t240, nk_r255, nk_l255, nk_m255, nk_n255, nk_s255, nk_t255, nk_r256, nk_l256, nk_m256, nk_n256, nk_s256, nk_t256, Nat.add_zero, Nat.zero_add, Nat.mul_one, Nat.one_mul, Nat.mul_zero, Nat.zero_mul, Nat.sub_zero, Nat.reduceSub, Nat.reduceMul, Nat.add_sub_cancel, Bool.false_eq_true, Int.add_zero, Int.zero_add, Int.sub_zero, e1]
      · intro u hu
        rcases j5 u hu with h3 | h3
        · exact i5 u h3
        · exact Or.inr h3
      · rcases j6 with ⟨h3, h4⟩ | h3
        · refine Or.inl ⟨h3, fun a b ha hab hb => ?_⟩
          by_cases hak : a = l.length - (k + 1)
          · subst hak
            exact j4 _ (i6 b hab (by omega))
          · exact h4 a b (by omega) hab hb
        · exact Or.inr h3
    · refine ⟨f1, 0, P1, n1, ?_, i2, i3, i4, i5, Or.inr ⟨rfl, i6⟩⟩
      rw [ze_X3_takeIn_8]
      refine Eq.trans (Eq.trans ?_ i1) ?_
      · simp (disch := omega) only [ze_X3_takeIn_0, ze_X3_takeIn_6, ze_X3_takeIn_12, ze_X3_takeIn_17, ze_X3_takeIn_23, ze_X3_takeIn_32, ze_X3_takeIn_39, ze_X3_takeIn_51, ze_X3_takeIn_58, ze_X3_takeIn_64, zcal_x, zfh_nil, zfh_cons, zset_0, zset_1, zset_s, zcal_v, zcal_n, zcalI_n, zco_O, zcf_O, zcs_O, zisc_O, zr8_A, zr8_S, zri_A, zri_B, zri_C, zrl_L, zrd_D, zrs_R, zgi_A, zgi_S, zgi_B, zgi_C, zgl_L, zgd_D, zisa_A, zisa_S, zisa_L, zisa_B, zisa_R, zln_A, zln_S, zln_L, zln_B, zln_R, zwi_A, zwl_L, zwd_D, zclr_i, zclr_r, zclr_l, zclr_d, zclr_n, zok_i, zok_l, zok_b0, zok_b1, I_add, I_sub, I_mul, I_neg, J_add, J_sub, J_mul, J_toI, I_ofNat, I_cl, I_J, I_ne2, zup_same, zup_up, zup_ne, zc1_eqB, zc1_neB, zret_b, zret_b0, zret_b1, List.getD_cons_zero, List.getD_cons_succ, List.length_cons, List.length_nil, List.set_cons_zero, List.set_cons_succ, Option.toList, List.cons_append, List.nil_append, Int.cast_ofNat_Int, decide_eq_true_eq, Bool.and_eq_true, and_self, true_and, and_true, if_true, if_false, not_true_eq_false, not_false_eq_true, ↓reduceIte, Nat.reduceAdd, Nat.reduceLT, Nat.reduceLeDiff, Nat.reduceEqDiff, Int.reduceAdd, Int.reduceSub, Int.reduceMul, Int.reduceNeg, Int.reduceLT, Int.reduceLE, Int.reduceEq, Int.reduceToNat, Int.toNat_natCast, Nat.lt_add_one, Nat.zero_lt_succ, q1_eq_t, q1_eq_f, q2_eq_t, q2_eq_f, ql_eq_t, ql_eq_f, q1_ne_t, q1_ne_f, q2_ne_t, q2_ne_f, ql_ne_t, ql_ne_f, q1_lt_t, q1_lt_f, q2_lt_t, q2_lt_f, ql_lt_t, ql_lt_f, q1_ge_t, q1_ge_f, q2_ge_t, q2_ge_f, ql_ge_t, ql_ge_f, q1_gt_t, q1_gt_f, q2_gt_t, q2_gt_f, ql_gt_t, ql_gt_f, q1_le_t, q1_le_f, q2_le_t, q2_le_f, ql_le_t, ql_le_f, zib_t, qb_t, qb_f, nk_add, nk_mul, nk_sub, nk_d1, nk_d0, nk_toNat, nk_r1, nk_l1, nk_m1, nk_n1, nk_s1, nk_t1, nk_r2, nk_l2, nk_m2, nk_n2, nk_s2, nk_t2, nk_r3, nk_l3, nk_m3, nk_n3, nk_s3, nk_t3, nk_r4, nk_l4, nk_m4, nk_n4, nk_s4, nk_t4, nk_r6, nk_l6, nk_m6, nk_n6, nk_s6, nk_t6, nk_r7, nk_l7, nk_m7, nk_n7, nk_s7, nk_t7, nk_r8, nk_l8, nk_m8, nk_n8, nk_s8, nk_t8, nk_r12, nk_l12, nk_m12, nk_n12, nk_s12, nk_t12, nk_r31, nk_l31, nk_m31, nk_n31, nk_s31, nk_t31, nk_r32, nk_l32, nk_m32, nk_n32, nk_s32, nk_t32, nk_r59, nk_l59, nk_m59, nk_n59, nk_s59, nk_t59, nk_r60, nk_l60, nk_m60, nk_n60, nk_s60, nk_t60, nk_r96, nk_l96, nk_m96, nk_n96, nk_s96, nk_t96, nk_r97, nk_l97, nk_m97, nk_n97, nk_s97, nk_t97, nk_r120, nk_l120, nk_m120, nk_n120, nk_s120, nk_t120, nk_r240, nk_l240, nk_m240, nk_n240, nk_s240, nk_t240, nk_r255, nk_l255, nk_m255, nk_n255, nk_s255, nk_t255, nk_r256, nk_l256, nk_m256, nk_n256, nk_s256, nk_t256, Nat.add_zero, Nat.zero_add, Nat.mul_one, Nat.one_mul, Nat.mul_zero, Nat.zero_mul, Nat.sub_zero, Nat.reduceSub, Nat.reduceMul, Nat.add_sub_cancel, Bool.false_eq_true, Int.add_zero, Int.zero_add, Int.sub_zero, e1]
      · rw [ze_X3_takeIn_8]
        simp (disch := omega) only [ze_X3_takeIn_0, ze_X3_takeIn_6, ze_X3_takeIn_12, ze_X3_takeIn_17, ze_X3_takeIn_23, ze_X3_takeIn_32, ze_X3_takeIn_39, ze_X3_takeIn_51, ze_X3_takeIn_58, ze_X3_takeIn_64, zcal_x, zfh_nil, zfh_cons, zset_0, zset_1, zset_s, zcal_v, zcal_n, zcalI_n, zco_O, zcf_O, zcs_O, zisc_O, zr8_A, zr8_S, zri_A, zri_B, zri_C, zrl_L, zrd_D, zrs_R, zgi_A, zgi_S, zgi_B, zgi_C, zgl_L, zgd_D, zisa_A, zisa_S, zisa_L, zisa_B, zisa_R, zln_A, zln_S, zln_L, zln_B, zln_R, zwi_A, zwl_L, zwd_D, zclr_i, zclr_r, zclr_l, zclr_d, zclr_n, zok_i, zok_l, zok_b0, zok_b1, I_add, I_sub, I_mul, I_neg, J_add, J_sub, J_mul, J_toI, I_ofNat, I_cl, I_J, I_ne2, zup_same, zup_up, zup_ne, zc1_eqB, zc1_neB, zret_b, zret_b0, zret_b1, List.getD_cons_zero, List.getD_cons_succ, List.length_cons, List.length_nil, List.set_cons_zero, List.set_cons_succ, Option.toList, List.cons_append, List.nil_append, Int.cast_ofNat_Int, decide_eq_true_eq, Bool.and_eq_true, and_self, true_and, and_true, if_true, if_false, not_true_eq_false, not_false_eq_true, ↓reduceIte, Nat.reduceAdd, Nat.reduceLT, Nat.reduceLeDiff, Nat.reduceEqDiff, Int.reduceAdd, Int.reduceSub, Int.reduceMul, Int.reduceNeg, Int.reduceLT, Int.reduceLE, Int.reduceEq, Int.reduceToNat, Int.toNat_natCast, Nat.lt_add_one, Nat.zero_lt_succ, q1_eq_t, q1_eq_f, q2_eq_t, q2_eq_f, ql_eq_t, ql_eq_f, q1_ne_t, q1_ne_f, q2_ne_t, q2_ne_f, ql_ne_t, ql_ne_f, q1_lt_t, q1_lt_f, q2_lt_t, q2_lt_f, ql_lt_t, ql_lt_f, q1_ge_t, q1_ge_f, q2_ge_t, q2_ge_f, ql_ge_t, ql_ge_f, q1_gt_t, q1_gt_f, q2_gt_t, q2_gt_f, ql_gt_t, ql_gt_f, q1_le_t, q1_le_f, q2_le_t, q2_le_f, ql_le_t, ql_le_f, zib_t, qb_t, qb_f, nk_add, nk_mul, nk_sub, nk_d1, nk_d0, nk_toNat, nk_r1, nk_l1, nk_m1, nk_n1, nk_s1, nk_t1, nk_r2, nk_l2, nk_m2, nk_n2, nk_s2, nk_t2, nk_r3, nk_l3, nk_m3, nk_n3, nk_s3, nk_t3, nk_r4, nk_l4, nk_m4, nk_n4, nk_s4, nk_t4, nk_r6, nk_l6, nk_m6, nk_n6, nk_s6, nk_t6, nk_r7, nk_l7, nk_m7, nk_n7, nk_s7, nk_t7, nk_r8, nk_l8, nk_m8, nk_n8, nk_s8, nk_t8, nk_r12, nk_l12, nk_m12, nk_n12, nk_s12, nk_t12, nk_r31, nk_l31, nk_m31, nk_n31, nk_s31, nk_t31, nk_r32, nk_l32, nk_m32, nk_n32, nk_s32, nk_t32, nk_r59, nk_l59, nk_m59, nk_n59, nk_s59, nk_t59, nk_r60, nk_l60, nk_m60, nk_n60, nk_s60, nk_t60, nk_r96, nk_l96, nk_m96, nk_n96, nk_s96, nk_t96, nk_r97, nk_l97, nk_m97, nk_n97, nk_s97, nk_t97, nk_r120, nk_l120, nk_m120, nk_n120, nk_s120, nk_t120, nk_r240, nk_l240, nk_m240, nk_n240, nk_s240, nk_t240, nk_r255, nk_l255, nk_m255, nk_n255, nk_s255, nk_t255, nk_r256, nk_l256, nk_m256, nk_n256, nk_s256, nk_t256, Nat.add_zero, Nat.zero_add, Nat.mul_one, Nat.one_mul, Nat.mul_zero, Nat.zero_mul, Nat.sub_zero, Nat.reduceSub, Nat.reduceMul, Nat.add_sub_cancel, Bool.false_eq_true, Int.add_zero, Int.zero_add, Int.sub_zero]
theorem s_takeIn (hd : 3 ≤ d) (hl : wgood l) (hl6 : l.length ≤ 6) (h : pcs f p P n) : ∃ (f' : zF) (v : Int) (P' : Nat → List Nat) (n' : Nat), zrun zTb d 28 [.ref p, .long (J (wpk l))] f m = some (.inl (some (.int (I v))), f', m) ∧ pcs f' p P' n' ∧ fre p (p + 1) f f' ∧ (∀ u, pmem P n u → pmem P' n' u) ∧ (∀ u, pmem P' n' u → (pmem P n u ∨ ∃ a b, a < b ∧ b ≤ l.length ∧ u = wsl l a b)) ∧ ((v = 1 ∧ ∀ a b, a < b → b ≤ l.length → pmem P' n' (wsl l a b)) ∨ (v = 0 ∧ n' = 60 ∧ ∃ a b, a < b ∧ b ≤ l.length ∧ ¬ pmem P' n' (wsl l a b))) := by
  obtain ⟨d, rfl⟩ : ∃ e, d = e + 1 := ⟨d - 1, by omega⟩
  have e1 := s_X8_lengthOf (d := d) (f := f) (m := m) (by omega) hl6 (wpk_wsz hl)
  obtain ⟨f', v, P', n', i1, i2, i3, i4, i5, i6⟩ := ti_out (d := d) (m := m) (p := p) (by omega) hl hl6 l.length f P n .null .null .null (Nat.le_refl _) h
  refine ⟨f', v, P', n', ?_, i2, i3, i4, i5, ?_⟩
  · rw [zs_X3_takeIn]
    simp (disch := omega) only [ze_X3_takeIn_0, ze_X3_takeIn_6, ze_X3_takeIn_12, ze_X3_takeIn_17, ze_X3_takeIn_23, ze_X3_takeIn_32, ze_X3_takeIn_39, ze_X3_takeIn_51, ze_X3_takeIn_58, ze_X3_takeIn_64, zcal_x, zfh_nil, zfh_cons, zset_0, zset_1, zset_s, zcal_v, zcal_n, zcalI_n, zco_O, zcf_O, zcs_O, zisc_O, zr8_A, zr8_S, zri_A, zri_B, zri_C, zrl_L, zrd_D, zrs_R, zgi_A, zgi_S, zgi_B, zgi_C, zgl_L, zgd_D, zisa_A, zisa_S, zisa_L, zisa_B, zisa_R, zln_A, zln_S, zln_L, zln_B, zln_R, zwi_A, zwl_L, zwd_D, zclr_i, zclr_r, zclr_l, zclr_d, zclr_n, zok_i, zok_l, zok_b0, zok_b1, I_add, I_sub, I_mul, I_neg, J_add, J_sub, J_mul, J_toI, I_ofNat, I_cl, I_J, I_ne2, zup_same, zup_up, zup_ne, zc1_eqB, zc1_neB, zret_b, zret_b0, zret_b1, List.getD_cons_zero, List.getD_cons_succ, List.length_cons, List.length_nil, List.set_cons_zero, List.set_cons_succ, Option.toList, List.cons_append, List.nil_append, Int.cast_ofNat_Int, decide_eq_true_eq, Bool.and_eq_true, and_self, true_and, and_true, if_true, if_false, not_true_eq_false, not_false_eq_true, ↓reduceIte, Nat.reduceAdd, Nat.reduceLT, Nat.reduceLeDiff, Nat.reduceEqDiff, Int.reduceAdd, Int.reduceSub, Int.reduceMul, Int.reduceNeg, Int.reduceLT, Int.reduceLE, Int.reduceEq, Int.reduceToNat, Int.toNat_natCast, Nat.lt_add_one, Nat.zero_lt_succ, q1_eq_t, q1_eq_f, q2_eq_t, q2_eq_f, ql_eq_t, ql_eq_f, q1_ne_t, q1_ne_f, q2_ne_t, q2_ne_f, ql_ne_t, ql_ne_f, q1_lt_t, q1_lt_f, q2_lt_t, q2_lt_f, ql_lt_t, ql_lt_f, q1_ge_t, q1_ge_f, q2_ge_t, q2_ge_f, ql_ge_t, ql_ge_f, q1_gt_t, q1_gt_f, q2_gt_t, q2_gt_f, ql_gt_t, ql_gt_f, q1_le_t, q1_le_f, q2_le_t, q2_le_f, ql_le_t, ql_le_f, zib_t, qb_t, qb_f, nk_add, nk_mul, nk_sub, nk_d1, nk_d0, nk_toNat, nk_r1, nk_l1, nk_m1, nk_n1, nk_s1, nk_t1, nk_r2, nk_l2, nk_m2, nk_n2, nk_s2, nk_t2, nk_r3, nk_l3, nk_m3, nk_n3, nk_s3, nk_t3, nk_r4, nk_l4, nk_m4, nk_n4, nk_s4, nk_t4, nk_r6, nk_l6, nk_m6, nk_n6, nk_s6, nk_t6, nk_r7, nk_l7, nk_m7, nk_n7, nk_s7, nk_t7, nk_r8, nk_l8, nk_m8, nk_n8, nk_s8, nk_t8, nk_r12, nk_l12, nk_m12, nk_n12, nk_s12, nk_t12, nk_r31, nk_l31, nk_m31, nk_n31, nk_s31, nk_t31, nk_r32, nk_l32, nk_m32, nk_n32, nk_s32, nk_t32, nk_r59, nk_l59, nk_m59, nk_n59, nk_s59, nk_t59, nk_r60, nk_l60, nk_m60, nk_n60, nk_s60, nk_t60, nk_r96, nk_l96, nk_m96, nk_n96, nk_s96, nk_t96, nk_r97, nk_l97, nk_m97, nk_n97, nk_s97, nk_t97, nk_r120, nk_l120, nk_m120, nk_n120, nk_s120, nk_t120, nk_r240, nk_l240, nk_m240, nk_n240, nk_s240, nk_t240, nk_r255, nk_l255, nk_m255, nk_n255, nk_s255, nk_t255, nk_r256, nk_l256, nk_m256, nk_n256, nk_s256, nk_t256, Nat.add_zero, Nat.zero_add, Nat.mul_one, Nat.one_mul, Nat.mul_zero, Nat.zero_mul, Nat.sub_zero, Nat.reduceSub, Nat.reduceMul, Nat.add_sub_cancel, Bool.false_eq_true, Int.add_zero, Int.zero_add, Int.sub_zero, e1]
    exact i1
  · rcases i6 with ⟨h1, h2⟩ | h1
    · exact Or.inl ⟨h1, fun a b hab hb => h2 a b (by omega) hab hb⟩
    · exact Or.inr h1
end
