/-! SPECS: the class: the pile -/
section
variable {d n np kp ps ps' k0 : Nat} {f f' : zF} {m : zM} {X P : Nat → List Nat} {G : Nat → Bool} {C : Nat → Nat} {fd fp j l c : Int} {ft t : zE} {T T' : Nat → zE} {b : Bool}
theorem CI_pl (h : CI f n X G P np C kp fd ft ps T) (hf : ∀ i, i ≠ 1 → (i < 218 ∨ 265 < i) → f' i = f i) (h1 : ∀ fp, f 1 = some (fo fd fp ps) → f' 1 = some (fo fd fp ps')) (hP : PL f' ps' T') : CI f' n X G P np C kp fd ft ps' T' := by
  obtain ⟨⟨fp, hfo, hfp⟩, hE, hPC, h9, hC, hS, ht, hF, hL⟩ := h
  have g : ∃ g, g = zup f 1 (fo fd fp ps') := ⟨_, rfl⟩
  obtain ⟨g, hg⟩ := g
  have e1 : fre 1 1 f g := by rw [hg]; exact fre_up (by omega) (by omega)
  have e2 : fre 218 265 g f' := fun i hi => by
    by_cases h0 : i = 1
    · rw [h0, h1 fp hfo, hg, zup_same]
    · rw [hf i h0 hi, hg, zup_ne h0]
  exact ⟨⟨fp, h1 fp hfo, hfp⟩, EX_fre e2 (by omega) (EX_fre e1 (by omega) hE), hPC, (hf 9 (by omega) (by omega)).trans h9, hC, SRW_fre e2 (by omega) (SRW_fre e1 (by omega) hS), trok_fre e2 (by omega) (trok_fre e1 (by omega) ht), FD_fre e2 (by omega) (FD_fre e1 (by omega) hF), hP⟩
theorem PL_set (h : PL f ps T) (hf : ∀ i, i ≠ 1 → (i < 218 + 4 * k0 ∨ 218 + 4 * k0 + 3 < i) → f' i = f i) (hp : pt f' (218 + 4 * k0) t) (hg : gl t) (h60 : sz t ≤ 60) (h12 : ps' ≤ 12) (hk : ∀ k, k < ps' → k ≠ k0 → k < ps) : PL f' ps' (zst T k0 t) := by
  obtain ⟨h1, h2, h3⟩ := h
  refine ⟨(hf 217 (by omega) (by omega)).trans h1, h12, fun k hk12 => ?_⟩
  by_cases e : k = k0
  · subst e
    exact ⟨wfp_pt hp, fun _ => by rw [zst_same]; exact ⟨hp, hg, h60⟩⟩
  · have hfr : ∀ i, 218 + 4 * k ≤ i → i ≤ 218 + 4 * k + 3 → f' i = f i := fun i a b => hf i (by omega) (by omega)
    obtain ⟨⟨c, K, L, Z, ⟨p0, p1, p2, p3⟩, hL⟩, hb⟩ := h3 k hk12
    refine ⟨⟨c, K, L, Z, ⟨(hfr _ (by omega) (by omega)).trans p0, (hfr _ (by omega) (by omega)).trans p1, (hfr _ (by omega) (by omega)).trans p2, (hfr _ (by omega) (by omega)).trans p3⟩, hL⟩, fun hk2 => ?_⟩
    rw [zst_ne e]
    obtain ⟨⟨K, L, Z, ⟨p0, p1, p2, p3⟩, hr, hL⟩, q2, q3⟩ := hb (hk k hk2 e)
    exact ⟨⟨K, L, Z, ⟨(hfr _ (by omega) (by omega)).trans p0, (hfr _ (by omega) (by omega)).trans p1, (hfr _ (by omega) (by omega)).trans p2, (hfr _ (by omega) (by omega)).trans p3⟩, hr, hL⟩, q2, q3⟩
theorem PL_less (h : PL f ps T) (hf : ∀ i, i ≠ 1 → f' i = f i) (h12 : ps' ≤ ps) : PL f' ps' T := by
  obtain ⟨h1, h2, h3⟩ := h
  have hfr : fre 1 1 f f' := fun i hi => hf i (by omega)
  refine ⟨(hf 217 (by omega)).trans h1, by omega, fun k hk12 => ⟨wfp_fre hfr (by omega) (h3 k hk12).1, fun hk => ?_⟩⟩
  obtain ⟨q1, q2, q3⟩ := (h3 k hk12).2 (by omega)
  exact ⟨pt_fre hfr (by omega) q1, q2, q3⟩
theorem c_pop (hd : 1 ≤ d) (h : CI f n X G P np C kp fd ft ps T) : if 1 ≤ ps then ∃ f', zrun zTb d 106 [.ref 1] f m = some (.inl (some (.int (I ((ps - 1 : Nat) : Int)))), f', m) ∧ fre 1 265 f f' ∧ CI f' n X G P np C kp fd ft (ps - 1) T else zrun zTb d 106 [.ref 1] f m = some (.inr 1, f, (none, m.2.1 + 1, m.2.2 + 6)) := by
  obtain ⟨⟨fp, hfo, -⟩, -⟩ := id h
  have hL := h.2.2.2.2.2.2.2.2
  have e := s_X9_pop (m := m) hd hfo hL.2.1
  split
  · rename_i hp
    rw [if_pos hp] at e
    refine ⟨_, e, fre_up (by omega) (by omega), CI_pl h (fun i h1 _ => zup_ne h1) ?_ (PL_less hL (fun i h1 => zup_ne h1) (by omega))⟩
    intro fp2 hfp2
    have : (fo fd fp ps) = fo fd fp2 ps := Option.some.inj (hfo.symm.trans hfp2)
    rw [zup_same]
    have hI : I fp = I fp2 := by
      unfold fo kO at this
      simp only [Sum.inr.injEq, Prod.mk.injEq, List.cons.injEq, Value.int.injEq, true_and, and_true] at this
      exact this
    unfold fo
    rw [hI]
  · rename_i hp
    rw [if_neg hp] at e
    exact e
end
