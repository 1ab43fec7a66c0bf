/-! both objects beside each other -/
section
variable {n np kp ps : Nat} {f g : zF} {X P : Nat → List Nat} {G : Nat → Bool} {C : Nat → Nat} {fd thr : Int} {ft : zE} {T : Nat → zE}
theorem CI_fre (hf : ∀ i, i < 266 ∨ 283 < i → g i = f i) (h : CI f n X G P np C kp fd ft ps T) : CI g n X G P np C kp fd ft ps T := by
  have hr : fre 266 283 f g := fun i hi => hf i (by omega)
  obtain ⟨⟨fp, h1, h2⟩, hE, hPC, h9, hC, hS, ht, hF, hL⟩ := h
  exact ⟨⟨fp, (hf 1 (by omega)).trans h1, h2⟩, EX_fre hr (by omega) hE, hPC, (hf 9 (by omega)).trans h9, hC, SRW_fre hr (by omega) hS, trok_fre hr (by omega) ht, FD_fre hr (by omega) hF, PL_fre hr (by omega) hL⟩
theorem RI_fre (hf : fre 1 265 f g) (h : RI f thr n X G P np C kp fd ft ps T) : RI g thr n X G P np C kp fd ft ps T := by
  obtain ⟨⟨stt, te, h1⟩, hE, hP, hPC, hC, hR, hN, hS⟩ := h
  exact ⟨⟨stt, te, (hf 266 (by omega)).trans h1⟩, RE_fre (fun i hi => hf i (by omega)) hE, RP_fre (fun i hi => hf i (by omega)) hP, hPC, hC, RR_fre (fun i hi => hf i (by omega)) hR, RN_fre (fun i hi => hf i (by omega)) hN, hS⟩
/-- the reference's look at the class's answers: the same state -/
theorem RI_PC {P' : Nat → List Nat} {np' : Nat} (h : RI f thr n X G P np C kp fd ft ps T) (hP : PC n X P' np') : np = np' ∧ RI f thr n X G P' np C kp fd ft ps T := by
  obtain ⟨h0, hE, hP0, hPC, h1⟩ := h
  obtain ⟨rfl, he⟩ := PC_eq hPC hP
  exact ⟨rfl, h0, hE, RP_congr hP0 he, hP, h1⟩
/-- places and codes: where the words below a bound end -/
theorem wa6_lt {p q : Nat} (h : p < q) (hq : q < 1093) : w4 (wa 6 p) < w4 (wa 6 q) := by
  rcases wa_lt 6 p q h with h1 | h1
  · exact h1
  · rw [pf7] at h1
    exact absurd hq h1
end
