/-! the class's object, whole; add mark drop setCost -/
def wfp (f : zF) (p : Nat) : Prop := ∃ (c : Nat) (K L Z : Nat → Int), pat f p c K L Z ∧ ∀ i, 0 ≤ L i ∧ L i < 256
theorem wfp_fre {a b p : Nat} {f g : zF} (h : fre a b f g) (hp : p + 3 < a ∨ b < p) (hw : wfp f p) : wfp g p := by
  obtain ⟨c, K, L, Z, h1, h2⟩ := hw
  exact ⟨c, K, L, Z, fre_pat h h1 hp, h2⟩
theorem wfp_pt {f : zF} {p : Nat} {t : zE} (h : pt f p t) : wfp f p := by
  obtain ⟨K, L, Z, h1, h2, h3⟩ := h
  exact ⟨_, K, L, Z, h1, h3⟩
theorem SRW_fre {a b n : Nat} {f g : zF} (h : fre a b f g) (hab : 146 < a ∨ b < 10) (hs : SRW f n) : SRW g n := by
  obtain ⟨⟨w, u, h1⟩, ⟨D, h2⟩, ⟨CH, h3⟩, KS, FS, SS, NS, TS, SL, WT, TB, ⟨s0, s1, s2, s3, s4, s5, s6⟩, k2, k3, k4, k5, ⟨FR, BK, WH, cn, c1, c2, c3, c4⟩, k7⟩ := hs
  refine ⟨⟨w, u, (h _ (by omega)).trans h1⟩, ⟨D, (h _ (by omega)).trans h2⟩, ⟨CH, (h _ (by omega)).trans h3⟩, KS, FS, SS, NS, TS, SL, WT, TB, ⟨(h _ (by omega)).trans s0, (h _ (by omega)).trans s1, (h _ (by omega)).trans s2, (h _ (by omega)).trans s3, (h _ (by omega)).trans s4, (h _ (by omega)).trans s5, (h _ (by omega)).trans s6⟩, (h _ (by omega)).trans k2, (h _ (by omega)).trans k3, (h _ (by omega)).trans k4, fun k hk => ?_, ⟨FR, BK, WH, cn, (h _ (by omega)).trans c1, (h _ (by omega)).trans c2, (h _ (by omega)).trans c3, (h _ (by omega)).trans c4⟩, k7⟩
  obtain ⟨Q, hq⟩ := k5 k hk
  exact ⟨Q, (h _ (by omega)).trans hq⟩
theorem fre_scr {a b n o : Nat} {f g : zF} {SG IT : Nat → Int} (h : fre a b f g) (hab : 216 < a ∨ b < 214) (hs : scr f n o SG IT) : scr g n o SG IT := ⟨(h _ (by omega)).trans hs.1, (h _ (by omega)).trans hs.2.1, (h _ (by omega)).trans hs.2.2⟩
def PL (f : zF) (ps : Nat) (T : Nat → zE) : Prop := f 217 = some (kR 5 12 (fun k => 218 + 4 * k)) ∧ ps ≤ 12 ∧ ∀ k, k < 12 → wfp f (218 + 4 * k) ∧ (k < ps → pt f (218 + 4 * k) (T k) ∧ gl (T k) ∧ sz (T k) ≤ 60)
theorem PL_fre {a b ps : Nat} {f g : zF} {T : Nat → zE} (h : fre a b f g) (hab : b < 217 ∨ 265 < a) (hp : PL f ps T) : PL g ps T := by
  obtain ⟨h1, h2, h3⟩ := hp
  refine ⟨(h _ (by omega)).trans h1, h2, fun k hk => ⟨wfp_fre h (by omega) (h3 k hk).1, fun hk2 => ?_⟩⟩
  obtain ⟨q1, q2, q3⟩ := (h3 k hk).2 hk2
  exact ⟨pt_fre h (by omega) q1, q2, q3⟩
/-- what is found: the pattern, its text -/
def FD (f : zF) (fd : Int) (ft : zE) : Prop := (fd = 0 ∨ fd = 1) ∧ wfp f 210 ∧ (fd = 1 → pt f 210 ft ∧ gl ft ∧ sz ft ≤ 60) ∧ ∃ (n0 o0 : Nat) (SG IT : Nat → Int), scr f n0 o0 SG IT ∧ (fd = 1 → n0 = (tx ft).length ∧ arr SG 0 (tx ft))
theorem FD_fre {a b : Nat} {fd : Int} {f g : zF} {ft : zE} (h : fre a b f g) (hab : b < 210 ∨ 216 < a) (hp : FD f fd ft) : FD g fd ft := by
  obtain ⟨h1, h2, h3, n0, o0, SG, IT, h4, h5⟩ := hp
  exact ⟨h1, wfp_fre h (by omega) h2, fun e => ⟨pt_fre h (by omega) (h3 e).1, (h3 e).2⟩, n0, o0, SG, IT, fre_scr h (by omega) h4, h5⟩
theorem FD_0 {f : zF} {fd : Int} {ft : zE} (hp : FD f fd ft) : FD f 0 ft := by
  obtain ⟨h1, h2, h3, n0, o0, SG, IT, h4, h5⟩ := hp
  exact ⟨Or.inl rfl, h2, fun e => absurd e (by decide), n0, o0, SG, IT, h4, fun e => absurd e (by decide)⟩
def CC (C : Nat → Nat) : Prop := ∀ k, k < 7 → 1 ≤ C k ∧ C k ≤ 9
def CI (f : zF) (n : Nat) (X : Nat → List Nat) (G : Nat → Bool) (P : Nat → List Nat) (np : Nat) (C : Nat → Nat) (kp : Nat) (fd : Int) (ft : zE) (ps : Nat) (T : Nat → zE) : Prop := (∃ fp : Int, f 1 = some (fo fd fp ps) ∧ (fd = 1 → fp = ((cnp P ft np : Nat) : Int))) ∧ EX f n X G P np ∧ PC n X P np ∧ f 9 = some (kA 7 (fun k => (C k : Int))) ∧ CC C ∧ SRW f kp ∧ trok f ∧ FD f fd ft ∧ PL f ps T
section
variable {d n np kp ps n' np' : Nat} {f f' : zF} {m : zM} {X X' P P' : Nat → List Nat} {G G' : Nat → Bool} {C C' : Nat → Nat} {fd fp j c : Int} {ft : zE} {T : Nat → zE} {b : Bool}
theorem CI_ex (h : CI f n X G P np C kp fd ft ps T) (hf : fre 1 8 f f') (h1 : f' 1 = some (fo 0 fp ps)) (hE : EX f' n' X' G' P' np') (hP : PC n' X' P' np') : CI f' n' X' G' P' np' C kp 0 ft ps T := by
  obtain ⟨-, -, -, h9, hC, hS, ht, hF, hL⟩ := h
  exact ⟨⟨fp, h1, fun e => absurd e (by decide)⟩, hE, hP, (hf _ (by omega)).trans h9, hC, SRW_fre hf (by omega) hS, trok_fre hf (by omega) ht, FD_0 (FD_fre hf (by omega) hF), PL_fre hf (by omega) hL⟩
theorem CI_cost (h : CI f n X G P np C kp fd ft ps T) (hf : ∀ i, i ≠ 1 → i ≠ 9 → f' i = f i) (h1 : f' 1 = some (fo 0 fp ps)) (h9 : f' 9 = some (kA 7 (fun k => (C' k : Int)))) (hC : CC C') : CI f' n X G P np C' kp 0 ft ps T := by
  obtain ⟨-, hE, hP, -, -, hS, ht, hF, hL⟩ := h
  have hf1 : fre 1 9 f f' := fun i hi => hf i (by omega) (by omega)
  obtain ⟨p, q, W, c, k, k1, ⟨k2, k3, k4⟩, k5, k6, k7, k8, k9⟩ := hE
  have hE' : EX f' n X G P np := by
    obtain ⟨a, a1, a2, a3⟩ := k6
    exact ⟨p, q, W, c, k, k1, ⟨(hf _ (by omega) (by omega)).trans k2, (hf _ (by omega) (by omega)).trans k3, (hf _ (by omega) (by omega)).trans k4⟩, k5, ⟨a, (hf _ (by omega) (by omega)).trans a1, (hf _ (by omega) (by omega)).trans a2, a3⟩, (hf _ (by omega) (by omega)).trans k7, (hf _ (by omega) (by omega)).trans k8, k9⟩
  exact ⟨⟨fp, h1, fun e => absurd e (by decide)⟩, hE', hP, h9, hC, SRW_fre hf1 (by omega) hS, trok_fre hf1 (by omega) ht, FD_0 (FD_fre hf1 (by omega) hF), PL_fre hf1 (by omega) hL⟩
theorem EX_mark (h : EX f n X G P np) (b : Bool) (k : Nat) : EX (zup f 4 (kB 10 (zst G k b))) n X (zst G k b) P np := by
  obtain ⟨p, q, W, c, r, k1, ⟨k2, k3, k4⟩, k5, k6, k7, k8, k9⟩ := h
  refine ⟨p, q, W, c, r, k1, ⟨by rw [zup_ne (by omega)]; exact k2, by rw [zup_ne (by omega)]; exact k3, zup_same⟩, k5, ?_, by rw [zup_ne (by omega)]; exact k7, by rw [zup_ne (by omega)]; exact k8, k9⟩
  obtain ⟨a, a1, a2, a3⟩ := k6
  exact ⟨a, by rw [zup_ne (by omega)]; exact a1, by rw [zup_ne (by omega)]; exact a2, a3⟩
theorem c_mark (hd : 2 ≤ d) (h : CI f n X G P np C kp fd ft ps T) (h1 : -2147483648 ≤ j) (h2 : j < 2147483648) : if 0 ≤ j ∧ j < n then ∃ f', zrun zTb d 79 [.ref 1, .int (I j), .int (I (if b = true then 1 else 0))] f m = some (.inl (some (.int (I (if G j.toNat = true then 1 else 0)))), f', m) ∧ CI f' n X (zst G j.toNat b) P np C kp 0 ft ps T ∧ fre 1 265 f f' else zrun zTb d 79 [.ref 1, .int (I j), .int (I (if b = true then 1 else 0))] f m = some (.inr 2, f, (none, m.2.1 + 1, m.2.2 + 6)) := by
  obtain ⟨d, rfl⟩ : ∃ e, d = e + 1 := ⟨d - 1, by omega⟩
  obtain ⟨⟨fp, hfo, -⟩, hE, hPC, -⟩ := id h
  obtain ⟨p, q, W, c, r, k1, ⟨k2, k3, k4⟩, k5, k6, k7, k8, k9⟩ := id hE
  have e1 := s_X1_has (d := d) (m := m) (j := j) (by omega) ⟨k2, k3, k4⟩ k9.1 h1 h2
  unfold fo at hfo
  split
  · rename_i hj
    have hn := k9.1
    obtain ⟨i, rfl⟩ : ∃ i : Nat, j = (i : Int) := ⟨j.toNat, by omega⟩
    rw [Int.toNat_natCast]
    rw [if_pos hj] at e1
    refine ⟨zup (zup f 4 (kB 10 (zst G i b))) 1 (fo 0 fp ps), ?_, CI_ex (fp := fp) h (fre_zup (fre_up (by omega) (by omega)) (by omega) (by omega)) zup_same (EX_fre (a := 1) (b := 1) (fre_up (by omega) (by omega)) (by omega) (EX_mark hE b i)) hPC, fre_zup (fre_up (by omega) (by omega)) (by omega) (by omega)⟩
    rw [zs_X9_mark]
    unfold fo
    simp (disch := omega) only [ze_X9_mark_0, ze_X9_mark_4, ze_X9_mark_8, ze_X9_mark_11, ze_X9_mark_21, ze_X9_mark_25, ze_X9_mark_28, ze_X9_mark_30, ze_X9_mark_35, ze_X9_mark_38, ze_X9_mark_41, ze_X9_mark_46, zcal_x, zfh_nil, zfh_cons, zset_0, zset_1, zset_s, zcal_v, zcal_n, zcalI_n, zco_O, zcf_O, zcs_O, zisc_O, zr8_A, zr8_S, zri_A, zri_B, zri_C, zrl_L, zrd_D, zrs_R, zgi_A, zgi_S, zgi_B, zgi_C, zgl_L, zgd_D, zisa_A, zisa_S, zisa_L, zisa_B, zisa_R, zln_A, zln_S, zln_L, zln_B, zln_R, zwi_A, zwl_L, zwd_D, zclr_i, zclr_r, zclr_l, zclr_d, zclr_n, zok_i, zok_l, zok_b0, zok_b1, I_add, I_sub, I_mul, I_neg, J_add, J_sub, J_mul, J_toI, I_ofNat, I_cl, I_J, I_ne2, zup_same, zup_up, zup_ne, zc1_eqB, zc1_neB, zret_b, zret_b0, zret_b1, List.getD_cons_zero, List.getD_cons_succ, List.length_cons, List.length_nil, List.set_cons_zero, List.set_cons_succ, Option.toList, List.cons_append, List.nil_append, Int.cast_ofNat_Int, decide_eq_true_eq, Bool.and_eq_true, and_self, true_and, and_true, if_true, if_false, not_true_eq_false, not_false_eq_true, ↓reduceIte, Nat.reduceAdd, Nat.reduceLT, Nat.reduceLeDiff, Nat.reduceEqDiff, Int.reduceAdd, Int.reduceSub, Int.reduceMul, Int.reduceNeg, Int.reduceLT, Int.reduceLE, Int.reduceEq, Int.reduceToNat, Int.toNat_natCast, Nat.lt_add_one, Nat.zero_lt_succ, q1_eq_t, q1_eq_f, q2_eq_t, q2_eq_f, ql_eq_t, ql_eq_f, q1_ne_t, q1_ne_f, q2_ne_t, q2_ne_f, ql_ne_t, ql_ne_f, q1_lt_t, q1_lt_f, q2_lt_t, q2_lt_f, ql_lt_t, ql_lt_f, q1_ge_t, q1_ge_f, q2_ge_t, q2_ge_f, ql_ge_t, ql_ge_f, q1_gt_t, q1_gt_f, q2_gt_t, q2_gt_f, ql_gt_t, ql_gt_f, q1_le_t, q1_le_f, q2_le_t, q2_le_f, ql_le_t, ql_le_f, zib_t, qb_t, qb_f, nk_add, nk_mul, nk_sub, nk_d1, nk_d0, nk_toNat, nk_r1, nk_l1, nk_m1, nk_n1, nk_s1, nk_t1, nk_r2, nk_l2, nk_m2, nk_n2, nk_s2, nk_t2, nk_r3, nk_l3, nk_m3, nk_n3, nk_s3, nk_t3, nk_r4, nk_l4, nk_m4, nk_n4, nk_s4, nk_t4, nk_r6, nk_l6, nk_m6, nk_n6, nk_s6, nk_t6, nk_r7, nk_l7, nk_m7, nk_n7, nk_s7, nk_t7, nk_r8, nk_l8, nk_m8, nk_n8, nk_s8, nk_t8, nk_r12, nk_l12, nk_m12, nk_n12, nk_s12, nk_t12, nk_r31, nk_l31, nk_m31, nk_n31, nk_s31, nk_t31, nk_r32, nk_l32, nk_m32, nk_n32, nk_s32, nk_t32, nk_r59, nk_l59, nk_m59, nk_n59, nk_s59, nk_t59, nk_r60, nk_l60, nk_m60, nk_n60, nk_s60, nk_t60, nk_r96, nk_l96, nk_m96, nk_n96, nk_s96, nk_t96, nk_r97, nk_l97, nk_m97, nk_n97, nk_s97, nk_t97, nk_r120, nk_l120, nk_m120, nk_n120, nk_s120, nk_t120, nk_r240, nk_l240, nk_m240, nk_n240, nk_s240, nk_t240, nk_r255, nk_l255, nk_m255, nk_n255, nk_s255, nk_t255, nk_r256, nk_l256, nk_m256, nk_n256, nk_s256, nk_t256, Nat.add_zero, Nat.zero_add, Nat.mul_one, Nat.one_mul, Nat.mul_zero, Nat.zero_mul, Nat.sub_zero, Nat.reduceSub, Nat.reduceMul, Nat.add_sub_cancel, Bool.false_eq_true, Int.add_zero, Int.zero_add, Int.sub_zero, zfty_8_4, hfo, k2, k4, e1, zwi_B]
  · rename_i hj
    rw [if_neg hj] at e1
    rw [zs_X9_mark]
    simp (disch := omega) only [ze_X9_mark_0, ze_X9_mark_4, ze_X9_mark_8, ze_X9_mark_11, ze_X9_mark_21, ze_X9_mark_25, ze_X9_mark_28, ze_X9_mark_30, ze_X9_mark_35, ze_X9_mark_38, ze_X9_mark_41, ze_X9_mark_46, zcal_x, zfh_nil, zfh_cons, zset_0, zset_1, zset_s, zcal_v, zcal_n, zcalI_n, zco_O, zcf_O, zcs_O, zisc_O, zr8_A, zr8_S, zri_A, zri_B, zri_C, zrl_L, zrd_D, zrs_R, zgi_A, zgi_S, zgi_B, zgi_C, zgl_L, zgd_D, zisa_A, zisa_S, zisa_L, zisa_B, zisa_R, zln_A, zln_S, zln_L, zln_B, zln_R, zwi_A, zwl_L, zwd_D, zclr_i, zclr_r, zclr_l, zclr_d, zclr_n, zok_i, zok_l, zok_b0, zok_b1, I_add, I_sub, I_mul, I_neg, J_add, J_sub, J_mul, J_toI, I_ofNat, I_cl, I_J, I_ne2, zup_same, zup_up, zup_ne, zc1_eqB, zc1_neB, zret_b, zret_b0, zret_b1, List.getD_cons_zero, List.getD_cons_succ, List.length_cons, List.length_nil, List.set_cons_zero, List.set_cons_succ, Option.toList, List.cons_append, List.nil_append, Int.cast_ofNat_Int, decide_eq_true_eq, Bool.and_eq_true, and_self, true_and, and_true, if_true, if_false, not_true_eq_false, not_false_eq_true, ↓reduceIte, Nat.reduceAdd, Nat.reduceLT, Nat.reduceLeDiff, Nat.reduceEqDiff, Int.reduceAdd, Int.reduceSub, Int.reduceMul, Int.reduceNeg, Int.reduceLT, Int.reduceLE, Int.reduceEq, Int.reduceToNat, Int.toNat_natCast, Nat.lt_add_one, Nat.zero_lt_succ, q1_eq_t, q1_eq_f, q2_eq_t, q2_eq_f, ql_eq_t, ql_eq_f, q1_ne_t, q1_ne_f, q2_ne_t, q2_ne_f, ql_ne_t, ql_ne_f, q1_lt_t, q1_lt_f, q2_lt_t, q2_lt_f, ql_lt_t, ql_lt_f, q1_ge_t, q1_ge_f, q2_ge_t, q2_ge_f, ql_ge_t, ql_ge_f, q1_gt_t, q1_gt_f, q2_gt_t, q2_gt_f, ql_gt_t, ql_gt_f, q1_le_t, q1_le_f, q2_le_t, q2_le_f, ql_le_t, ql_le_f, zib_t, qb_t, qb_f, nk_add, nk_mul, nk_sub, nk_d1, nk_d0, nk_toNat, nk_r1, nk_l1, nk_m1, nk_n1, nk_s1, nk_t1, nk_r2, nk_l2, nk_m2, nk_n2, nk_s2, nk_t2, nk_r3, nk_l3, nk_m3, nk_n3, nk_s3, nk_t3, nk_r4, nk_l4, nk_m4, nk_n4, nk_s4, nk_t4, nk_r6, nk_l6, nk_m6, nk_n6, nk_s6, nk_t6, nk_r7, nk_l7, nk_m7, nk_n7, nk_s7, nk_t7, nk_r8, nk_l8, nk_m8, nk_n8, nk_s8, nk_t8, nk_r12, nk_l12, nk_m12, nk_n12, nk_s12, nk_t12, nk_r31, nk_l31, nk_m31, nk_n31, nk_s31, nk_t31, nk_r32, nk_l32, nk_m32, nk_n32, nk_s32, nk_t32, nk_r59, nk_l59, nk_m59, nk_n59, nk_s59, nk_t59, nk_r60, nk_l60, nk_m60, nk_n60, nk_s60, nk_t60, nk_r96, nk_l96, nk_m96, nk_n96, nk_s96, nk_t96, nk_r97, nk_l97, nk_m97, nk_n97, nk_s97, nk_t97, nk_r120, nk_l120, nk_m120, nk_n120, nk_s120, nk_t120, nk_r240, nk_l240, nk_m240, nk_n240, nk_s240, nk_t240, nk_r255, nk_l255, nk_m255, nk_n255, nk_s255, nk_t255, nk_r256, nk_l256, nk_m256, nk_n256, nk_s256, nk_t256, Nat.add_zero, Nat.zero_add, Nat.mul_one, Nat.one_mul, Nat.mul_zero, Nat.zero_mul, Nat.sub_zero, Nat.reduceSub, Nat.reduceMul, Nat.add_sub_cancel, Bool.false_eq_true, Int.add_zero, Int.zero_add, Int.sub_zero, hfo, k2, e1]
end
