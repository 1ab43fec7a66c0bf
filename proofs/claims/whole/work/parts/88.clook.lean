/-! SPECS: the class: look -/
section
variable {o : Nat → Nat → Nat → Nat → zW → zW} {C : Nat → Nat} {E : Nat → Nat × Nat × Nat × Nat} {Q : zW → Prop} {k c pr N : Nat}
theorem zwr_Q (ho : ∀ k a b pr s, Q s → Q (o k a b pr s)) {s : zW} (h : Q s) : ∀ p, Q (zwr o E k c pr p s)
  | 0 => h
  | p + 1 => by
    rw [zwr_s]
    split
    · exact ho _ _ _ _ _ (zwr_Q ho h p)
    · exact zwr_Q ho h p
theorem zjq_Q (ho : ∀ k a b pr s, Q s → Q (o k a b pr s)) {s : zW} {p : Nat} (h : Q s) : ∀ q, Q (zjq o E k c pr p q s)
  | 0 => h
  | q + 1 => by
    rw [zjq_s]
    split
    · exact ho _ _ _ _ _ (zjq_Q ho h q)
    · exact zjq_Q ho h q
theorem zjo_Q (ho : ∀ k a b pr s, Q s → Q (o k a b pr s)) {s : zW} (h : Q s) : ∀ p, Q (zjo o E k c pr N p s)
  | 0 => h
  | p + 1 => zjq_Q ho (zjo_Q ho h p) N
theorem zkd_Q (ho : ∀ k a b pr s, Q s → Q (o k a b pr s)) {s : zW} (h : Q s) : ∀ j, Q (zkd o C pr N E j s)
  | 0 => h
  | j + 1 => by
    rw [zkd_s]
    split
    · exact zwr_Q ho (zkd_Q ho h j) _
    · exact zjo_Q ho (zkd_Q ho h j) _
theorem zlv_Q (ho : ∀ k a b pr s, Q s → Q (o k a b pr s)) {s : zW} (h : Q s) : Q (zlv o C pr s) := by
  have h1 : Q (if C 0 = pr then o 0 0 0 pr s else s) := by
    split
    · exact ho _ _ _ _ _ h
    · exact h
  have h2 : Q (if C 1 = pr then o 1 0 0 pr (if C 0 = pr then o 0 0 0 pr s else s) else (if C 0 = pr then o 0 0 0 pr s else s)) := by
    split
    · exact ho _ _ _ _ _ h1
    · exact h1
  unfold zlv
  dsimp only
  split
  · exact ho _ _ _ _ _ (ho _ _ _ _ _ (ho _ _ _ _ _ h2))
  · exact h2
theorem zse_Q (ho : ∀ k a b pr s, Q s → Q (o k a b pr s)) (h0 : Q (zse o C 0)) : ∀ n, Q (zse o C n)
  | 0 => h0
  | n + 1 => zkd_Q ho (zlv_Q ho (zse_Q ho h0 n)) 4
end
theorem zse_st {P X : Nat → List Nat} {np n : Nat} {G : Nat → Bool} {C : Nat → Nat} (most : Nat) : (zse (zoff P np n X G) C most).2.2.2 < 3 ∧ ((zse (zoff P np n X G) C most).2.2.2 = 1 → 1 ≤ (zse (zoff P np n X G) C most).1) := by
  refine zse_Q (Q := fun s => s.2.2.2 < 3 ∧ (s.2.2.2 = 1 → 1 ≤ s.1)) ?_ ⟨by show 0 < 3; omega, fun h => absurd h (by show ¬ 0 = 1; omega)⟩ most
  intro k a b pr s hs
  show (zoff P np n X G k a b pr s).2.2.2 < 3 ∧ ((zoff P np n X G k a b pr s).2.2.2 = 1 → 1 ≤ (zoff P np n X G k a b pr s).1)
  unfold zoff
  split
  · exact hs
  · split
    · exact hs
    · split
      · exact ⟨by show 2 < 3; omega, fun h => absurd h (by show ¬ 2 = 1; omega)⟩
      · refine ⟨?_, fun _ => by show 1 ≤ s.1 + 1; omega⟩
        show (if _ then 1 else 0) < 3
        split <;> omega
section
variable {d n np kp ps : Nat} {f f' : zF} {m : zM} {X P : Nat → List Nat} {G : Nat → Bool} {C : Nat → Nat} {fd j : Int} {ft : zE} {T : Nat → zE}
theorem PC_HPP (h : PC n X P np) (hX : wok X n) (hnp : np ≤ 60) : HPP P np n X := by
  refine ⟨hnp, (PC_nil h).1, h.1, h.2.1, (PC_nil h).2, PC_fcl h, fun e he => ?_⟩
  apply (h.2.2 _).mpr
  by_cases hl : (X e).length = 0
  · exact Or.inl (List.eq_nil_of_length_eq_zero hl)
  · exact Or.inr ⟨e, he, 0, (X e).length, by omega, Nat.le_refl _, (wsl_full).symm⟩
theorem EX_np (h : EX f n X G P np) : np ≤ 60 ∧ n ≤ 10 ∧ wok X n := by
  obtain ⟨p, q, W, c, r, k1, k2, k5, ⟨a, a1, a2, a3, a4, -⟩, k7, k8, k9, k10⟩ := h
  exact ⟨a4, k9, k10⟩
theorem trok_eq {f g : zF} (h : ∀ i, 147 ≤ i → i ≤ 209 → g i = f i) (ht : trok f) : trok g := by
  obtain ⟨len, LT, E, ⟨h1, h2, h3, h4⟩, h5⟩ := ht
  exact ⟨len, LT, E, ⟨(h _ (by omega) (by omega)).trans h1, (h _ (by omega) (by omega)).trans h2, (h _ (by omega) (by omega)).trans h3, fun i hi => (h _ (by omega) (by omega)).trans (h4 i hi)⟩, h5⟩
theorem SRW_140 {f g : zF} {k : Nat} {WT : Nat → Int} (hf : ∀ i, i ≠ 140 → (i < 210 ∨ 213 < i) → g i = f i) (h140 : g 140 = some (kA 60 WT)) (h : SRW f k) : SRW g k := by
  obtain ⟨⟨w, u, h1⟩, ⟨D, h2⟩, ⟨CH, h3⟩, KS, FS, SS, NS, TS, SL, WT0, TB, ⟨s0, s1, s2, s3, s4, s5, s6⟩, k2, k3, k4, k5, ⟨FR, BK, WH, cn, c1, c2, c3, c4⟩, k7⟩ := h
  refine ⟨⟨w, u, (hf _ (by omega) (by omega)).trans h1⟩, ⟨D, (hf _ (by omega) (by omega)).trans h2⟩, ⟨CH, (hf _ (by omega) (by omega)).trans h3⟩, KS, FS, SS, NS, TS, SL, WT, TB, ⟨(hf _ (by omega) (by omega)).trans s0, (hf _ (by omega) (by omega)).trans s1, (hf _ (by omega) (by omega)).trans s2, (hf _ (by omega) (by omega)).trans s3, (hf _ (by omega) (by omega)).trans s4, (hf _ (by omega) (by omega)).trans s5, (hf _ (by omega) (by omega)).trans s6⟩, (hf _ (by omega) (by omega)).trans k2, (hf _ (by omega) (by omega)).trans k3, h140, fun k hk => ?_, ⟨FR, BK, WH, cn, (hf _ (by omega) (by omega)).trans c1, (hf _ (by omega) (by omega)).trans c2, (hf _ (by omega) (by omega)).trans c3, (hf _ (by omega) (by omega)).trans c4⟩, k7⟩
  obtain ⟨Q, hq⟩ := k5 k hk
  exact ⟨Q, (hf _ (by omega) (by omega)).trans hq⟩
theorem FD_any {f : zF} {fd : Int} {ft t : zE} (hp : FD f fd ft) : FD f 0 t := by
  obtain ⟨h1, h2, h3, n0, o0, SG, IT, h4, h5⟩ := hp
  exact ⟨Or.inl rfl, h2, fun e => absurd e (by decide), n0, o0, SG, IT, h4, fun e => absurd e (by decide)⟩
noncomputable def lkf (s : zW) : Int := if s.2.2.2 = 1 then 1 else 0
theorem c_look (hd : 9 ≤ d) (h : CI f n X G P np C kp fd ft ps T) (h1 : -2147483648 ≤ j) (h2 : j < 2147483648) : if 1 ≤ j ∧ j ≤ 60 then ∃ f', zrun zTb d 87 [.ref 1, .int (I j)] f m = some (.inl (some (.int (I (lans (zse (zoff P np n X G) C j.toNat))))), f', m) ∧ fre 1 265 f f' ∧ CI f' n X G P np C (zse (zoff P np n X G) C j.toNat).1 (lkf (zse (zoff P np n X G) C j.toNat)) ((zse (zoff P np n X G) C j.toNat).2.2.1 ((zse (zoff P np n X G) C j.toNat).1 - 1)) ps T else zrun zTb d 87 [.ref 1, .int (I j)] f m = some (.inr 0, f, (none, m.2.1 + 1, m.2.2 + 6)) := by
  obtain ⟨d, rfl⟩ : ∃ e, d = e + 1 := ⟨d - 1, by omega⟩
  split
  · rename_i hj
    obtain ⟨most, rfl⟩ : ∃ i : Nat, j = (i : Int) := ⟨j.toNat, by omega⟩
    rw [Int.toNat_natCast]
    obtain ⟨⟨fp, hfo, -⟩, hE, hPC, h9, hC, hS, ht, hF, hL⟩ := id h
    obtain ⟨hnp, hn, hX⟩ := EX_np hE
    have hH := PC_HPP hPC hX hnp
    obtain ⟨g, hg⟩ : ∃ g, g = zup f 1 (fo 0 fp ps) := ⟨_, rfl⟩
    have hgf : fre 1 1 f g := by rw [hg]; exact fre_up (by omega) (by omega)
    have hg1 : g 1 = some (fo 0 fp ps) := by rw [hg, zup_same]
    obtain ⟨f1, e1, a1, a2, a3, a4⟩ := s_run (d := d) (m := m) (most := most) (by omega) hH (by omega) hC (EX_fre hgf (by omega) hE) (SRW_fre hgf (by omega) hS) ((hgf 9 (by omega)).trans h9)
    obtain ⟨q1, q2⟩ := zse_st (P := P) (X := X) (np := np) (n := n) (G := G) (C := C) most
    generalize zse (zoff P np n X G) C most = s at *
    have hf1 : fre 1 146 f f1 := fre_trans (fre_mono hgf (by omega) (by omega)) (fre_mono a1 (by omega) (by omega))
    have hE1 : EX f1 n X G P np := EX_fre a1 (by omega) (EX_fre hgf (by omega) hE)
    have h91 : f1 9 = some (kA 7 (fun k => (C k : Int))) := (a1 9 (by omega)).trans ((hgf 9 (by omega)).trans h9)
    have hL1 := PL_fre hf1 (by omega) hL
    have ht1 := trok_fre hf1 (by omega) ht
    have hF1 := FD_fre hf1 (by omega) hF
    have hf11 : f1 1 = some (fo 0 fp ps) := (a1 1 (by omega)).trans hg1
    have hfo' := hfo
    have hg1' := hg1
    have hf11' := hf11
    unfold fo at hfo' hg1' hf11' hg
    by_cases hst : s.2.2.2 = 1
    · have hk1 := q2 hst
      have hw := a4.2.1 (s.1 - 1) (by omega)
      have hsz := sz_pos (s.2.2.1 (s.1 - 1))
      obtain ⟨-, -, -, -, -, -, -, w8, w9, w10⟩ := hw
      have hla : lans s = ((s.2.1 (s.1 - 1)).2.2.2 : Nat) := by
        unfold lans; rw [if_neg (by omega), if_neg (by omega)]
      have hlk : lkf s = 1 := if_pos hst
      rw [hla] at e1
      rw [hla, hlk]
      obtain ⟨g2, hg2⟩ : ∃ g, g = zup f1 1 (fo 1 fp ps) := ⟨_, rfl⟩
      have hgf2 : fre 1 1 f1 g2 := by rw [hg2]; exact fre_up (by omega) (by omega)
      have hg21 : g2 1 = some (fo 1 fp ps) := by rw [hg2, zup_same]
      obtain ⟨-, ⟨c0, K, L, Z, hp0, hL0⟩, -, n0, o0, SG, IT, hscr, -⟩ := hF1
      have hSO2 := SO_fre hgf2 (by omega) a3
      obtain ⟨f2, WT, e2, b1, b2, b3⟩ := s_unroll (d := d) (m := m) (by omega) a4 hk1 hSO2 (fre_pat hgf2 hp0 (by omega)) hL0
      have hb3 : fre 140 213 g2 f2 := fun i hi => b3 i (by omega) (by omega)
      obtain ⟨f3, SG3, IT3, e3, c1, c2, c3⟩ := s_swrite (d := d) (m := m) (by omega) (fre_scr hb3 (by omega) (fre_scr hgf2 (by omega) hscr)) b1 w8 (by omega)
      have hSO3 : SO f3 P np s.1 s.2.1 s.2.2.1 := by
        refine SO_fre c2 (by omega) ?_
        obtain ⟨KS, FS, SS, NS, TS, SL, WT0, TB, ⟨s0, s1, s2, s3, s4, s5, s6⟩, k2, k3, k4, k5, k6, k7⟩ := hSO2
        refine ⟨KS, FS, SS, NS, TS, SL, WT, TB, ⟨(b3 _ (by omega) (by omega)).trans s0, (b3 _ (by omega) (by omega)).trans s1, (b3 _ (by omega) (by omega)).trans s2, (b3 _ (by omega) (by omega)).trans s3, (b3 _ (by omega) (by omega)).trans s4, (b3 _ (by omega) (by omega)).trans s5, (b3 _ (by omega) (by omega)).trans s6⟩, (b3 _ (by omega) (by omega)).trans k2, (b3 _ (by omega) (by omega)).trans k3, b2, fun k hk => ?_, fun k hk => ?_, k7⟩
        · obtain ⟨Q, hQ⟩ := k5 k hk
          exact ⟨Q, (b3 _ (by omega) (by omega)).trans hQ⟩
        · obtain ⟨Q, R, hQ, r⟩ := k6 k hk
          have := a4.1
          exact ⟨Q, R, (b3 _ (by omega) (by omega)).trans hQ, r⟩
      obtain ⟨KS, FS, SS, NS, TS, SL, WT1, TB, hst3, r2, r3, r4, r5, r6, r7, r8, r9⟩ := hSO3
      have e4 := s_X6_lastTable (d := d) (m := m) (by omega) hst3 (by omega)
      have hTB := (r9 (s.1 - 1) (by omega)).2.2.2.2.2
      rw [if_pos hk1, hTB] at e4
      have e5 := s_bitCount (x := tbn P (s.2.2.1 (s.1 - 1)) np) (d := d) (f := f3) (m := m) (by omega) (tbn_lt hnp)
      rw [cnp_tbn np (by omega)] at e5
      have hcl := cnp_le (P := P) (t := s.2.2.1 (s.1 - 1)) np
      obtain ⟨f4, hf4⟩ : ∃ f4, f4 = zup f3 1 (fo 1 ((cnp P (s.2.2.1 (s.1 - 1)) np : Nat) : Int) ps) := ⟨_, rfl⟩
      have hff : fre 1 1 f3 f4 := by rw [hf4]; exact fre_up (by omega) (by omega)
      have hf14 : fre 1 216 f f4 := fre_trans (fre_mono hf1 (by omega) (by omega)) (fre_trans (fre_mono hgf2 (by omega) (by omega)) (fre_trans (fre_mono hb3 (by omega) (by omega)) (fre_trans (fre_mono c2 (by omega) (by omega)) (fre_mono hff (by omega) (by omega)))))
      have t1 : f3 1 = g2 1 := (c2 1 (by omega)).trans (hb3 1 (by omega))
      refine ⟨f4, ?_, fre_mono hf14 (by omega) (by omega), ⟨_, by rw [hf4, zup_same], fun _ => rfl⟩, ?_, hPC, ?_, hC, ?_, ?_, ?_, PL_fre hf14 (by omega) hL⟩
      · have y10 : ∀ g : zF, g 10 = f1 10 → ∃ w u : Int64, g 10 = some (kO 5 [.ref 11, .ref 145, .ref 146, .long w, .long u]) := fun g hg => by
          obtain ⟨⟨w, u, hwu⟩, -⟩ := a2
          exact ⟨w, u, hg.trans hwu⟩
        obtain ⟨wg, ug, yg⟩ : ∃ w u : Int64, g 10 = some (kO 5 [.ref 11, .ref 145, .ref 146, .long w, .long u]) := by
          obtain ⟨⟨w, u, hwu⟩, -⟩ := hS
          exact ⟨w, u, (hgf 10 (by omega)).trans hwu⟩
        obtain ⟨w, u, y1⟩ := y10 g2 (hgf2 10 (by omega))
        obtain ⟨w3, u3, y3⟩ := y10 f3 ((c2 10 (by omega)).trans ((hb3 10 (by omega)).trans (hgf2 10 (by omega))))
        obtain ⟨w1, u1, y0⟩ := y10 f1 rfl
        have x10 : ∃ w u : Int64, f 10 = some (kO 5 [.ref 11, .ref 145, .ref 146, .long w, .long u]) := hS.1
        have g22 := hg21
        have f31 := t1.trans hg21
        have f21 := (hb3 1 (by omega)).trans hg21
        unfold fo at g22 f31 f21 hg2 hf4
        have z11 := hSO2
        obtain ⟨KS2, FS2, SS2, NS2, TS2, SL2, WT2, TB2, ⟨z11, -⟩, -⟩ := hSO2
        have z113 := hst3.1
        obtain ⟨K2, L2, Z2, ⟨zp, -⟩, -⟩ := b1
        have zp0 : ∀ g : zF, g 210 = f1 210 → g 210 = some (kO 2 [.ref (210 + 1), .ref (210 + 2), .ref (210 + 3), .int (I c0)]) := fun g hg => hg.trans hp0.1
        have zp2 := zp0 g2 (hgf2 210 (by omega))
        have zs2 := (fre_scr hb3 (by omega) (fre_scr hgf2 (by omega) hscr)).1
        rw [zs_X9_look]
        simp (disch := omega) only [ze_X9_look_0, ze_X9_look_5, ze_X9_look_11, ze_X9_look_21, ze_X9_look_26, ze_X9_look_30, ze_X9_look_34, ze_X9_look_38, ze_X9_look_42, ze_X9_look_47, ze_X9_look_52, ze_X9_look_56, ze_X9_look_59, ze_X9_look_63, ze_X9_look_66, ze_X9_look_70, ze_X9_look_74, ze_X9_look_77, ze_X9_look_82, ze_X9_look_85, ze_X9_look_88, ze_X9_look_91, ze_X9_look_94, zcal_x, zfh_nil, zfh_cons, zset_0, zset_1, zset_s, zcal_v, zcal_n, zcalI_n, zco_O, zcf_O, zcs_O, zisc_O, zr8_A, zr8_S, zri_A, zri_B, zri_C, zrl_L, zrd_D, zrs_R, zgi_A, zgi_S, zgi_B, zgi_C, zgl_L, zgd_D, zisa_A, zisa_S, zisa_L, zisa_B, zisa_R, zln_A, zln_S, zln_L, zln_B, zln_R, zwi_A, zwl_L, zwd_D, zclr_i, zclr_r, zclr_l, zclr_d, zclr_n, zok_i, zok_l, zok_b0, zok_b1, I_add, I_sub, I_mul, I_neg, J_add, J_sub, J_mul, J_toI, I_ofNat, I_cl, I_J, I_ne2, zup_same, zup_up, zup_ne, zc1_eqB, zc1_neB, zret_b, zret_b0, zret_b1, List.getD_cons_zero, List.getD_cons_succ, List.length_cons, List.length_nil, List.set_cons_zero, List.set_cons_succ, Option.toList, List.cons_append, List.nil_append, Int.cast_ofNat_Int, decide_eq_true_eq, Bool.and_eq_true, and_self, true_and, and_true, if_true, if_false, not_true_eq_false, not_false_eq_true, ↓reduceIte, Nat.reduceAdd, Nat.reduceLT, Nat.reduceLeDiff, Nat.reduceEqDiff, Int.reduceAdd, Int.reduceSub, Int.reduceMul, Int.reduceNeg, Int.reduceLT, Int.reduceLE, Int.reduceEq, Int.reduceToNat, Int.toNat_natCast, Nat.lt_add_one, Nat.zero_lt_succ, q1_eq_t, q1_eq_f, q2_eq_t, q2_eq_f, ql_eq_t, ql_eq_f, q1_ne_t, q1_ne_f, q2_ne_t, q2_ne_f, ql_ne_t, ql_ne_f, q1_lt_t, q1_lt_f, q2_lt_t, q2_lt_f, ql_lt_t, ql_lt_f, q1_ge_t, q1_ge_f, q2_ge_t, q2_ge_f, ql_ge_t, ql_ge_f, q1_gt_t, q1_gt_f, q2_gt_t, q2_gt_f, ql_gt_t, ql_gt_f, q1_le_t, q1_le_f, q2_le_t, q2_le_f, ql_le_t, ql_le_f, zib_t, qb_t, qb_f, nk_add, nk_mul, nk_sub, nk_d1, nk_d0, nk_toNat, nk_r1, nk_l1, nk_m1, nk_n1, nk_s1, nk_t1, nk_r2, nk_l2, nk_m2, nk_n2, nk_s2, nk_t2, nk_r3, nk_l3, nk_m3, nk_n3, nk_s3, nk_t3, nk_r4, nk_l4, nk_m4, nk_n4, nk_s4, nk_t4, nk_r6, nk_l6, nk_m6, nk_n6, nk_s6, nk_t6, nk_r7, nk_l7, nk_m7, nk_n7, nk_s7, nk_t7, nk_r8, nk_l8, nk_m8, nk_n8, nk_s8, nk_t8, nk_r12, nk_l12, nk_m12, nk_n12, nk_s12, nk_t12, nk_r31, nk_l31, nk_m31, nk_n31, nk_s31, nk_t31, nk_r32, nk_l32, nk_m32, nk_n32, nk_s32, nk_t32, nk_r59, nk_l59, nk_m59, nk_n59, nk_s59, nk_t59, nk_r60, nk_l60, nk_m60, nk_n60, nk_s60, nk_t60, nk_r96, nk_l96, nk_m96, nk_n96, nk_s96, nk_t96, nk_r97, nk_l97, nk_m97, nk_n97, nk_s97, nk_t97, nk_r120, nk_l120, nk_m120, nk_n120, nk_s120, nk_t120, nk_r240, nk_l240, nk_m240, nk_n240, nk_s240, nk_t240, nk_r255, nk_l255, nk_m255, nk_n255, nk_s255, nk_t255, nk_r256, nk_l256, nk_m256, nk_n256, nk_s256, nk_t256, Nat.add_zero, Nat.zero_add, Nat.mul_one, Nat.one_mul, Nat.mul_zero, Nat.zero_mul, Nat.sub_zero, Nat.reduceSub, Nat.reduceMul, Nat.add_sub_cancel, Bool.false_eq_true, Int.add_zero, Int.zero_add, Int.sub_zero, zfty_8_4, zfty_8_7, hfo', ← hg, hg1', yg, e1, hf11', ← hg2, g22, y1, z11, zp2, e2, f21, zs2, zp, e3, f31, y3, z113, e4, e5, ← hf4]
      · exact EX_fre (a := 1) (b := 1) hff (by omega) (EX_fre (a := 10) (b := 216) (fre_trans (fre_mono hb3 (by omega) (by omega)) (fre_mono c2 (by omega) (by omega))) (by omega) (EX_fre hgf2 (by omega) hE1))
      · exact (hff 9 (by omega)).trans ((c2 9 (by omega)).trans ((hb3 9 (by omega)).trans ((hgf2 9 (by omega)).trans h91)))
      · exact SRW_fre hff (by omega) (SRW_fre c2 (by omega) (SRW_140 b3 b2 (SRW_fre hgf2 (by omega) a2)))
      · exact trok_fre hff (by omega) (trok_fre c2 (by omega) (trok_eq (fun i hi1 hi2 => b3 i (by omega) (by omega)) (trok_fre hgf2 (by omega) ht1)))
      · exact FD_fre hff (by omega) ⟨Or.inr rfl, wfp_fre c2 (by omega) (wfp_pt b1), fun _ => ⟨pt_fre c2 (by omega) b1, w8, by omega⟩, _, _, SG3, IT3, c1, fun _ => ⟨rfl, c3⟩⟩
    · have hlk : lkf s = 0 := if_neg hst
      rw [hlk]
      refine ⟨f1, ?_, fre_mono hf1 (by omega) (by omega), ⟨fp, hf11, fun e => absurd e (by decide)⟩, hE1, hPC, h91, hC, a2, ht1, FD_any hF1, hL1⟩
      have hle : lans s = -1 ∨ lans s = -2 := by
        unfold lans
        rcases (show s.2.2.2 = 0 ∨ s.2.2.2 = 2 by omega) with h5 | h5
        · rw [if_pos h5]; exact Or.inl rfl
        · rw [if_neg (by omega), if_pos h5]; exact Or.inr rfl
      obtain ⟨⟨w0, u0, y0⟩, -⟩ := hS
      have yg := (hgf 10 (by omega)).trans y0
      rw [zs_X9_look]
      rcases hle with h5 | h5
      · rw [h5] at e1 ⊢
        simp (disch := omega) only [ze_X9_look_0, ze_X9_look_5, ze_X9_look_11, ze_X9_look_21, ze_X9_look_26, ze_X9_look_30, ze_X9_look_34, ze_X9_look_38, ze_X9_look_42, ze_X9_look_47, ze_X9_look_52, ze_X9_look_56, ze_X9_look_59, ze_X9_look_63, ze_X9_look_66, ze_X9_look_70, ze_X9_look_74, ze_X9_look_77, ze_X9_look_82, ze_X9_look_85, ze_X9_look_88, ze_X9_look_91, ze_X9_look_94, zcal_x, zfh_nil, zfh_cons, zset_0, zset_1, zset_s, zcal_v, zcal_n, zcalI_n, zco_O, zcf_O, zcs_O, zisc_O, zr8_A, zr8_S, zri_A, zri_B, zri_C, zrl_L, zrd_D, zrs_R, zgi_A, zgi_S, zgi_B, zgi_C, zgl_L, zgd_D, zisa_A, zisa_S, zisa_L, zisa_B, zisa_R, zln_A, zln_S, zln_L, zln_B, zln_R, zwi_A, zwl_L, zwd_D, zclr_i, zclr_r, zclr_l, zclr_d, zclr_n, zok_i, zok_l, zok_b0, zok_b1, I_add, I_sub, I_mul, I_neg, J_add, J_sub, J_mul, J_toI, I_ofNat, I_cl, I_J, I_ne2, zup_same, zup_up, zup_ne, zc1_eqB, zc1_neB, zret_b, zret_b0, zret_b1, List.getD_cons_zero, List.getD_cons_succ, List.length_cons, List.length_nil, List.set_cons_zero, List.set_cons_succ, Option.toList, List.cons_append, List.nil_append, Int.cast_ofNat_Int, decide_eq_true_eq, Bool.and_eq_true, and_self, true_and, and_true, if_true, if_false, not_true_eq_false, not_false_eq_true, ↓reduceIte, Nat.reduceAdd, Nat.reduceLT, Nat.reduceLeDiff, Nat.reduceEqDiff, Int.reduceAdd, Int.reduceSub, Int.reduceMul, Int.reduceNeg, Int.reduceLT, Int.reduceLE, Int.reduceEq, Int.reduceToNat, Int.toNat_natCast, Nat.lt_add_one, Nat.zero_lt_succ, q1_eq_t, q1_eq_f, q2_eq_t, q2_eq_f, ql_eq_t, ql_eq_f, q1_ne_t, q1_ne_f, q2_ne_t, q2_ne_f, ql_ne_t, ql_ne_f, q1_lt_t, q1_lt_f, q2_lt_t, q2_lt_f, ql_lt_t, ql_lt_f, q1_ge_t, q1_ge_f, q2_ge_t, q2_ge_f, ql_ge_t, ql_ge_f, q1_gt_t, q1_gt_f, q2_gt_t, q2_gt_f, ql_gt_t, ql_gt_f, q1_le_t, q1_le_f, q2_le_t, q2_le_f, ql_le_t, ql_le_f, zib_t, qb_t, qb_f, nk_add, nk_mul, nk_sub, nk_d1, nk_d0, nk_toNat, nk_r1, nk_l1, nk_m1, nk_n1, nk_s1, nk_t1, nk_r2, nk_l2, nk_m2, nk_n2, nk_s2, nk_t2, nk_r3, nk_l3, nk_m3, nk_n3, nk_s3, nk_t3, nk_r4, nk_l4, nk_m4, nk_n4, nk_s4, nk_t4, nk_r6, nk_l6, nk_m6, nk_n6, nk_s6, nk_t6, nk_r7, nk_l7, nk_m7, nk_n7, nk_s7, nk_t7, nk_r8, nk_l8, nk_m8, nk_n8, nk_s8, nk_t8, nk_r12, nk_l12, nk_m12, nk_n12, nk_s12, nk_t12, nk_r31, nk_l31, nk_m31, nk_n31, nk_s31, nk_t31, nk_r32, nk_l32, nk_m32, nk_n32, nk_s32, nk_t32, nk_r59, nk_l59, nk_m59, nk_n59, nk_s59, nk_t59, nk_r60, nk_l60, nk_m60, nk_n60, nk_s60, nk_t60, nk_r96, nk_l96, nk_m96, nk_n96, nk_s96, nk_t96, nk_r97, nk_l97, nk_m97, nk_n97, nk_s97, nk_t97, nk_r120, nk_l120, nk_m120, nk_n120, nk_s120, nk_t120, nk_r240, nk_l240, nk_m240, nk_n240, nk_s240, nk_t240, nk_r255, nk_l255, nk_m255, nk_n255, nk_s255, nk_t255, nk_r256, nk_l256, nk_m256, nk_n256, nk_s256, nk_t256, Nat.add_zero, Nat.zero_add, Nat.mul_one, Nat.one_mul, Nat.mul_zero, Nat.zero_mul, Nat.sub_zero, Nat.reduceSub, Nat.reduceMul, Nat.add_sub_cancel, Bool.false_eq_true, Int.add_zero, Int.zero_add, Int.sub_zero, zfty_8_4, hfo', ← hg, hg1', e1, yg]
      · rw [h5] at e1 ⊢
        simp (disch := omega) only [ze_X9_look_0, ze_X9_look_5, ze_X9_look_11, ze_X9_look_21, ze_X9_look_26, ze_X9_look_30, ze_X9_look_34, ze_X9_look_38, ze_X9_look_42, ze_X9_look_47, ze_X9_look_52, ze_X9_look_56, ze_X9_look_59, ze_X9_look_63, ze_X9_look_66, ze_X9_look_70, ze_X9_look_74, ze_X9_look_77, ze_X9_look_82, ze_X9_look_85, ze_X9_look_88, ze_X9_look_91, ze_X9_look_94, zcal_x, zfh_nil, zfh_cons, zset_0, zset_1, zset_s, zcal_v, zcal_n, zcalI_n, zco_O, zcf_O, zcs_O, zisc_O, zr8_A, zr8_S, zri_A, zri_B, zri_C, zrl_L, zrd_D, zrs_R, zgi_A, zgi_S, zgi_B, zgi_C, zgl_L, zgd_D, zisa_A, zisa_S, zisa_L, zisa_B, zisa_R, zln_A, zln_S, zln_L, zln_B, zln_R, zwi_A, zwl_L, zwd_D, zclr_i, zclr_r, zclr_l, zclr_d, zclr_n, zok_i, zok_l, zok_b0, zok_b1, I_add, I_sub, I_mul, I_neg, J_add, J_sub, J_mul, J_toI, I_ofNat, I_cl, I_J, I_ne2, zup_same, zup_up, zup_ne, zc1_eqB, zc1_neB, zret_b, zret_b0, zret_b1, List.getD_cons_zero, List.getD_cons_succ, List.length_cons, List.length_nil, List.set_cons_zero, List.set_cons_succ, Option.toList, List.cons_append, List.nil_append, Int.cast_ofNat_Int, decide_eq_true_eq, Bool.and_eq_true, and_self, true_and, and_true, if_true, if_false, not_true_eq_false, not_false_eq_true, ↓reduceIte, Nat.reduceAdd, Nat.reduceLT, Nat.reduceLeDiff, Nat.reduceEqDiff, Int.reduceAdd, Int.reduceSub, Int.reduceMul, Int.reduceNeg, Int.reduceLT, Int.reduceLE, Int.reduceEq, Int.reduceToNat, Int.toNat_natCast, Nat.lt_add_one, Nat.zero_lt_succ, q1_eq_t, q1_eq_f, q2_eq_t, q2_eq_f, ql_eq_t, ql_eq_f, q1_ne_t, q1_ne_f, q2_ne_t, q2_ne_f, ql_ne_t, ql_ne_f, q1_lt_t, q1_lt_f, q2_lt_t, q2_lt_f, ql_lt_t, ql_lt_f, q1_ge_t, q1_ge_f, q2_ge_t, q2_ge_f, ql_ge_t, ql_ge_f, q1_gt_t, q1_gt_f, q2_gt_t, q2_gt_f, ql_gt_t, ql_gt_f, q1_le_t, q1_le_f, q2_le_t, q2_le_f, ql_le_t, ql_le_f, zib_t, qb_t, qb_f, nk_add, nk_mul, nk_sub, nk_d1, nk_d0, nk_toNat, nk_r1, nk_l1, nk_m1, nk_n1, nk_s1, nk_t1, nk_r2, nk_l2, nk_m2, nk_n2, nk_s2, nk_t2, nk_r3, nk_l3, nk_m3, nk_n3, nk_s3, nk_t3, nk_r4, nk_l4, nk_m4, nk_n4, nk_s4, nk_t4, nk_r6, nk_l6, nk_m6, nk_n6, nk_s6, nk_t6, nk_r7, nk_l7, nk_m7, nk_n7, nk_s7, nk_t7, nk_r8, nk_l8, nk_m8, nk_n8, nk_s8, nk_t8, nk_r12, nk_l12, nk_m12, nk_n12, nk_s12, nk_t12, nk_r31, nk_l31, nk_m31, nk_n31, nk_s31, nk_t31, nk_r32, nk_l32, nk_m32, nk_n32, nk_s32, nk_t32, nk_r59, nk_l59, nk_m59, nk_n59, nk_s59, nk_t59, nk_r60, nk_l60, nk_m60, nk_n60, nk_s60, nk_t60, nk_r96, nk_l96, nk_m96, nk_n96, nk_s96, nk_t96, nk_r97, nk_l97, nk_m97, nk_n97, nk_s97, nk_t97, nk_r120, nk_l120, nk_m120, nk_n120, nk_s120, nk_t120, nk_r240, nk_l240, nk_m240, nk_n240, nk_s240, nk_t240, nk_r255, nk_l255, nk_m255, nk_n255, nk_s255, nk_t255, nk_r256, nk_l256, nk_m256, nk_n256, nk_s256, nk_t256, Nat.add_zero, Nat.zero_add, Nat.mul_one, Nat.one_mul, Nat.mul_zero, Nat.zero_mul, Nat.sub_zero, Nat.reduceSub, Nat.reduceMul, Nat.add_sub_cancel, Bool.false_eq_true, Int.add_zero, Int.zero_add, Int.sub_zero, zfty_8_4, hfo', ← hg, hg1', e1, yg]
  · rename_i hj
    rw [zs_X9_look]
    rcases (show j < 1 ∨ (1 ≤ j ∧ 60 < j) by omega) with h5 | ⟨h5, h6⟩
    · simp (disch := omega) only [ze_X9_look_0, ze_X9_look_5, ze_X9_look_11, ze_X9_look_21, ze_X9_look_26, ze_X9_look_30, ze_X9_look_34, ze_X9_look_38, ze_X9_look_42, ze_X9_look_47, ze_X9_look_52, ze_X9_look_56, ze_X9_look_59, ze_X9_look_63, ze_X9_look_66, ze_X9_look_70, ze_X9_look_74, ze_X9_look_77, ze_X9_look_82, ze_X9_look_85, ze_X9_look_88, ze_X9_look_91, ze_X9_look_94, zcal_x, zfh_nil, zfh_cons, zset_0, zset_1, zset_s, zcal_v, zcal_n, zcalI_n, zco_O, zcf_O, zcs_O, zisc_O, zr8_A, zr8_S, zri_A, zri_B, zri_C, zrl_L, zrd_D, zrs_R, zgi_A, zgi_S, zgi_B, zgi_C, zgl_L, zgd_D, zisa_A, zisa_S, zisa_L, zisa_B, zisa_R, zln_A, zln_S, zln_L, zln_B, zln_R, zwi_A, zwl_L, zwd_D, zclr_i, zclr_r, zclr_l, zclr_d, zclr_n, zok_i, zok_l, zok_b0, zok_b1, I_add, I_sub, I_mul, I_neg, J_add, J_sub, J_mul, J_toI, I_ofNat, I_cl, I_J, I_ne2, zup_same, zup_up, zup_ne, zc1_eqB, zc1_neB, zret_b, zret_b0, zret_b1, List.getD_cons_zero, List.getD_cons_succ, List.length_cons, List.length_nil, List.set_cons_zero, List.set_cons_succ, Option.toList, List.cons_append, List.nil_append, Int.cast_ofNat_Int, decide_eq_true_eq, Bool.and_eq_true, and_self, true_and, and_true, if_true, if_false, not_true_eq_false, not_false_eq_true, ↓reduceIte, Nat.reduceAdd, Nat.reduceLT, Nat.reduceLeDiff, Nat.reduceEqDiff, Int.reduceAdd, Int.reduceSub, Int.reduceMul, Int.reduceNeg, Int.reduceLT, Int.reduceLE, Int.reduceEq, Int.reduceToNat, Int.toNat_natCast, Nat.lt_add_one, Nat.zero_lt_succ, q1_eq_t, q1_eq_f, q2_eq_t, q2_eq_f, ql_eq_t, ql_eq_f, q1_ne_t, q1_ne_f, q2_ne_t, q2_ne_f, ql_ne_t, ql_ne_f, q1_lt_t, q1_lt_f, q2_lt_t, q2_lt_f, ql_lt_t, ql_lt_f, q1_ge_t, q1_ge_f, q2_ge_t, q2_ge_f, ql_ge_t, ql_ge_f, q1_gt_t, q1_gt_f, q2_gt_t, q2_gt_f, ql_gt_t, ql_gt_f, q1_le_t, q1_le_f, q2_le_t, q2_le_f, ql_le_t, ql_le_f, zib_t, qb_t, qb_f, nk_add, nk_mul, nk_sub, nk_d1, nk_d0, nk_toNat, nk_r1, nk_l1, nk_m1, nk_n1, nk_s1, nk_t1, nk_r2, nk_l2, nk_m2, nk_n2, nk_s2, nk_t2, nk_r3, nk_l3, nk_m3, nk_n3, nk_s3, nk_t3, nk_r4, nk_l4, nk_m4, nk_n4, nk_s4, nk_t4, nk_r6, nk_l6, nk_m6, nk_n6, nk_s6, nk_t6, nk_r7, nk_l7, nk_m7, nk_n7, nk_s7, nk_t7, nk_r8, nk_l8, nk_m8, nk_n8, nk_s8, nk_t8, nk_r12, nk_l12, nk_m12, nk_n12, nk_s12, nk_t12, nk_r31, nk_l31, nk_m31, nk_n31, nk_s31, nk_t31, nk_r32, nk_l32, nk_m32, nk_n32, nk_s32, nk_t32, nk_r59, nk_l59, nk_m59, nk_n59, nk_s59, nk_t59, nk_r60, nk_l60, nk_m60, nk_n60, nk_s60, nk_t60, nk_r96, nk_l96, nk_m96, nk_n96, nk_s96, nk_t96, nk_r97, nk_l97, nk_m97, nk_n97, nk_s97, nk_t97, nk_r120, nk_l120, nk_m120, nk_n120, nk_s120, nk_t120, nk_r240, nk_l240, nk_m240, nk_n240, nk_s240, nk_t240, nk_r255, nk_l255, nk_m255, nk_n255, nk_s255, nk_t255, nk_r256, nk_l256, nk_m256, nk_n256, nk_s256, nk_t256, Nat.add_zero, Nat.zero_add, Nat.mul_one, Nat.one_mul, Nat.mul_zero, Nat.zero_mul, Nat.sub_zero, Nat.reduceSub, Nat.reduceMul, Nat.add_sub_cancel, Bool.false_eq_true, Int.add_zero, Int.zero_add, Int.sub_zero]
    · simp (disch := omega) only [ze_X9_look_0, ze_X9_look_5, ze_X9_look_11, ze_X9_look_21, ze_X9_look_26, ze_X9_look_30, ze_X9_look_34, ze_X9_look_38, ze_X9_look_42, ze_X9_look_47, ze_X9_look_52, ze_X9_look_56, ze_X9_look_59, ze_X9_look_63, ze_X9_look_66, ze_X9_look_70, ze_X9_look_74, ze_X9_look_77, ze_X9_look_82, ze_X9_look_85, ze_X9_look_88, ze_X9_look_91, ze_X9_look_94, zcal_x, zfh_nil, zfh_cons, zset_0, zset_1, zset_s, zcal_v, zcal_n, zcalI_n, zco_O, zcf_O, zcs_O, zisc_O, zr8_A, zr8_S, zri_A, zri_B, zri_C, zrl_L, zrd_D, zrs_R, zgi_A, zgi_S, zgi_B, zgi_C, zgl_L, zgd_D, zisa_A, zisa_S, zisa_L, zisa_B, zisa_R, zln_A, zln_S, zln_L, zln_B, zln_R, zwi_A, zwl_L, zwd_D, zclr_i, zclr_r, zclr_l, zclr_d, zclr_n, zok_i, zok_l, zok_b0, zok_b1, I_add, I_sub, I_mul, I_neg, J_add, J_sub, J_mul, J_toI, I_ofNat, I_cl, I_J, I_ne2, zup_same, zup_up, zup_ne, zc1_eqB, zc1_neB, zret_b, zret_b0, zret_b1, List.getD_cons_zero, List.getD_cons_succ, List.length_cons, List.length_nil, List.set_cons_zero, List.set_cons_succ, Option.toList, List.cons_append, List.nil_append, Int.cast_ofNat_Int, decide_eq_true_eq, Bool.and_eq_true, and_self, true_and, and_true, if_true, if_false, not_true_eq_false, not_false_eq_true, ↓reduceIte, Nat.reduceAdd, Nat.reduceLT, Nat.reduceLeDiff, Nat.reduceEqDiff, Int.reduceAdd, Int.reduceSub, Int.reduceMul, Int.reduceNeg, Int.reduceLT, Int.reduceLE, Int.reduceEq, Int.reduceToNat, Int.toNat_natCast, Nat.lt_add_one, Nat.zero_lt_succ, q1_eq_t, q1_eq_f, q2_eq_t, q2_eq_f, ql_eq_t, ql_eq_f, q1_ne_t, q1_ne_f, q2_ne_t, q2_ne_f, ql_ne_t, ql_ne_f, q1_lt_t, q1_lt_f, q2_lt_t, q2_lt_f, ql_lt_t, ql_lt_f, q1_ge_t, q1_ge_f, q2_ge_t, q2_ge_f, ql_ge_t, ql_ge_f, q1_gt_t, q1_gt_f, q2_gt_t, q2_gt_f, ql_gt_t, ql_gt_f, q1_le_t, q1_le_f, q2_le_t, q2_le_f, ql_le_t, ql_le_f, zib_t, qb_t, qb_f, nk_add, nk_mul, nk_sub, nk_d1, nk_d0, nk_toNat, nk_r1, nk_l1, nk_m1, nk_n1, nk_s1, nk_t1, nk_r2, nk_l2, nk_m2, nk_n2, nk_s2, nk_t2, nk_r3, nk_l3, nk_m3, nk_n3, nk_s3, nk_t3, nk_r4, nk_l4, nk_m4, nk_n4, nk_s4, nk_t4, nk_r6, nk_l6, nk_m6, nk_n6, nk_s6, nk_t6, nk_r7, nk_l7, nk_m7, nk_n7, nk_s7, nk_t7, nk_r8, nk_l8, nk_m8, nk_n8, nk_s8, nk_t8, nk_r12, nk_l12, nk_m12, nk_n12, nk_s12, nk_t12, nk_r31, nk_l31, nk_m31, nk_n31, nk_s31, nk_t31, nk_r32, nk_l32, nk_m32, nk_n32, nk_s32, nk_t32, nk_r59, nk_l59, nk_m59, nk_n59, nk_s59, nk_t59, nk_r60, nk_l60, nk_m60, nk_n60, nk_s60, nk_t60, nk_r96, nk_l96, nk_m96, nk_n96, nk_s96, nk_t96, nk_r97, nk_l97, nk_m97, nk_n97, nk_s97, nk_t97, nk_r120, nk_l120, nk_m120, nk_n120, nk_s120, nk_t120, nk_r240, nk_l240, nk_m240, nk_n240, nk_s240, nk_t240, nk_r255, nk_l255, nk_m255, nk_n255, nk_s255, nk_t255, nk_r256, nk_l256, nk_m256, nk_n256, nk_s256, nk_t256, Nat.add_zero, Nat.zero_add, Nat.mul_one, Nat.one_mul, Nat.mul_zero, Nat.zero_mul, Nat.sub_zero, Nat.reduceSub, Nat.reduceMul, Nat.add_sub_cancel, Bool.false_eq_true, Int.add_zero, Int.zero_add, Int.sub_zero]
end
