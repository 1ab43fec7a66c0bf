/-! MATHS: words by places and by codes -/
noncomputable def rcn (t : zE) (l : Nat) : Nat → Nat
  | 0 => 0
  | w + 1 => rcn t l w + (if nz4 w (wd 6 w).length = true ∧ (wd 6 w).length = l ∧ mb t (wd 6 w) = true then 1 else 0)
theorem ccn_snoc (t : zE) : ∀ k a, ccn t a (k + 1) = ccn t a k + (if mb t (wa 6 (a + k)) = true then 1 else 0)
  | 0, a => by
    show (if mb t (wa 6 a) = true then 1 else 0) + 0 = 0 + (if mb t (wa 6 (a + 0)) = true then 1 else 0)
    rw [Nat.add_zero, Nat.add_zero, Nat.zero_add]
  | k + 1, a => by
    have ih := ccn_snoc t k (a + 1)
    show (if mb t (wa 6 a) = true then 1 else 0) + ccn t (a + 1) (k + 1) = (if mb t (wa 6 a) = true then 1 else 0) + ccn t (a + 1) k + (if mb t (wa 6 (a + (k + 1))) = true then 1 else 0)
    rw [ih, show a + 1 + k = a + (k + 1) by omega]
    omega
theorem pf_place : ∀ (K p : Nat), p < pf (K + 1) → ∃ L, L ≤ K ∧ pf L ≤ p ∧ p < pf (L + 1)
  | 0, p, h => ⟨0, Nat.le_refl _, Nat.zero_le _, h⟩
  | K + 1, p, h => by
    by_cases hp : p < pf (K + 1)
    · obtain ⟨L, h1, h2, h3⟩ := pf_place K p hp
      exact ⟨L, by omega, h2, h3⟩
    · exact ⟨K + 1, Nat.le_refl _, by omega, h⟩
theorem w4_6 {l : List Nat} (h : wgood l) (h6 : l.length ≤ 6) : w4 l < 4096 := by
  have h1 : w4 l < 2 ^ (2 * l.length) := (w4_wsz4 h).1
  have h2 : (2 : Nat) ^ (2 * l.length) ≤ 2 ^ 12 := Nat.pow_le_pow_right (by omega) (by omega)
  have h3 : (2 : Nat) ^ 12 = 4096 := by decide
  omega
theorem cnt_M (t : zE) {l : Nat} (hl : l ≤ 6) : ∀ M, M ≤ 4096 → ∃ q, pf l ≤ q ∧ q ≤ pf (l + 1) ∧ (∀ p, pf l ≤ p → p < q → w4 (wa 6 p) < M) ∧ (∀ p, q ≤ p → p < pf (l + 1) → M ≤ w4 (wa 6 p)) ∧ rcn t l M = ccn t (pf l) (q - pf l) := by
  have hm := pf_mono (show l ≤ l + 1 by omega)
  have h7 : pf (l + 1) ≤ 1093 := by rw [← pf7]; exact pf_mono (by omega)
  intro M
  induction M with
  | zero =>
    intro _
    refine ⟨pf l, Nat.le_refl _, hm, fun p h1 h2 => by omega, fun p _ _ => Nat.zero_le _, ?_⟩
    rw [Nat.sub_self]; rfl
  | succ M ih =>
    intro hM
    obtain ⟨q, h1, h2, h3, h4, h5⟩ := ih (by omega)
    have hM6 : M < 4 ^ 6 := by
      have : (4 : Nat) ^ 6 = 4096 := by decide
      omega
    by_cases hc : nz4 M (wd 6 M).length = true ∧ (wd 6 M).length = l
    · obtain ⟨hc1, hc2⟩ := hc
      have hg := (nz4_wd 6 M hM6).mp hc1
      obtain ⟨p0, hp0, hw⟩ := wa_sur 6 (wd 6 M) hg (by omega)
      have hw4 : w4 (wa 6 p0) = M := by rw [hw]; exact wd_w4 6 M hM6
      obtain ⟨L, hL1, hL2, hL3⟩ := pf_place 6 p0 hp0
      have hLl : L = l := by
        have := wa_len 6 L p0 hL1 hL2 hL3
        rw [hw] at this
        omega
      subst hLl
      have hq : q = p0 := by
        have a1 : ¬ p0 < q := fun z => by have := h3 p0 hL2 z; omega
        have a2 : ¬ q < p0 := fun z => by
          have := wa6_lt z (by omega)
          have := h4 q (Nat.le_refl _) (by omega)
          omega
        omega
      subst hq
      refine ⟨q + 1, by omega, by omega, fun p b1 b2 => ?_, fun p b1 b2 => ?_, ?_⟩
      · by_cases e : p = q
        · rw [e]; omega
        · have := h3 p b1 (by omega); omega
      · have := wa6_lt (show q < p by omega) (by omega)
        omega
      · show rcn t L M + (if nz4 M (wd 6 M).length = true ∧ (wd 6 M).length = L ∧ mb t (wd 6 M) = true then 1 else 0) = _
        rw [show q + 1 - pf L = (q - pf L) + 1 by omega, ccn_snoc, show pf L + (q - pf L) = q by omega, ← h5, hw]
        congr 1
        by_cases hb : mb t (wd 6 M) = true
        · rw [if_pos ⟨hc1, hc2, hb⟩, if_pos hb]
        · rw [if_neg (fun z => hb z.2.2), if_neg hb]
    · refine ⟨q, h1, h2, fun p b1 b2 => by have := h3 p b1 b2; omega, fun p b1 b2 => ?_, ?_⟩
      · have b3 := h4 p b1 b2
        have b4 : w4 (wa 6 p) ≠ M := by
          intro e
          apply hc
          have hwd : wd 6 M = wa 6 p := by rw [← e]; exact wd_of 6 (wa 6 p) (wa_good 6 p) (wa_lenle 6 p)
          refine ⟨(nz4_wd 6 M hM6).mpr (by rw [hwd]; exact wa_good 6 p), ?_⟩
          rw [hwd]
          exact wa_len 6 l p hl (by omega) b2
        omega
      · show rcn t l M + (if nz4 M (wd 6 M).length = true ∧ (wd 6 M).length = l ∧ mb t (wd 6 M) = true then 1 else 0) = _
        rw [if_neg (fun z => hc ⟨z.1, z.2.1⟩), h5, Nat.add_zero]
theorem rcn_ccn (t : zE) {l : Nat} (hl : l ≤ 6) : rcn t l 4096 = ccn t (pf l) (pf (l + 1) - pf l) := by
  obtain ⟨q, h1, h2, h3, h4, h5⟩ := cnt_M t hl 4096 (Nat.le_refl _)
  have hq : q = pf (l + 1) := by
    by_cases e : q = pf (l + 1)
    · exact e
    · have a1 := h4 q (Nat.le_refl _) (by omega)
      have a2 := w4_6 (wa_good 6 q) (wa_lenle 6 q)
      omega
  rw [h5, hq]
