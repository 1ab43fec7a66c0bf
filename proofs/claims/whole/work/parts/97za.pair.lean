/-! THE LAW: the class and the reference beside each other -/
section
variable {d n np kp ps n' np' kp' ps' L : Nat} {f f1 g : zF} {m m1 : zM} {X P X' P' : Nat → List Nat} {G G' : Nat → Bool} {C C' : Nat → Nat} {fd fd' thr code : Int} {ft ft' : zE} {T T' : Nat → zE} {xs : Nat → Int32} {M1 M2 : Nat} {A1 A2 : List Value} {rv : Value} {v : Int} {Q : Int → Value → zF → Prop}
theorem CI_285 (hf : ∀ i, i < 266 ∨ 285 < i → g i = f i) (h : CI f n X G P np C kp fd ft ps T) : CI g n X G P np C kp fd ft ps T := by
  have hr : fre 266 285 f g := fun i hi => hf i (by omega)
  obtain ⟨⟨fp, h1, h2⟩, hE, hPC, h9, hC, hS, ht, hF, hL⟩ := h
  exact ⟨⟨fp, (hf 1 (by omega)).trans h1, h2⟩, EX_fre hr (by omega) hE, hPC, (hf 9 (by omega)).trans h9, hC, SRW_fre hr (by omega) hS, trok_fre hr (by omega) ht, FD_fre hr (by omega) hF, PL_fre hr (by omega) hL⟩
theorem RI_loc (hf : ∀ i, 266 ≤ i → i ≤ 283 → g i = f i) (h : RI f thr n X G P np C kp fd ft ps T) : RI g thr n X G P np C kp fd ft ps T := by
  obtain ⟨⟨stt, te, h1⟩, hE, hP, hPC, hC, hR, hN, hS⟩ := h
  exact ⟨⟨stt, te, (hf 266 (by omega) (by omega)).trans h1⟩, RE_fre (fun i hi => hf i (by omega) (by omega)) hE, RP_fre (fun i hi => hf i (by omega) (by omega)) hP, hPC, hC, RR_fre (fun i hi => hf i (by omega) (by omega)) hR, RN_fre (fun i hi => hf i (by omega) (by omega)) hN, hS⟩
/-- the law's heap -/
def lwS (f : zF) (L : Nat) (xs : Nat → Int32) (thr : Int) (n : Nat) (X : Nat → List Nat) (G : Nat → Bool) (P : Nat → List Nat) (np : Nat) (C : Nat → Nat) (kp : Nat) (fd : Int) (ft : zE) (ps : Nat) (T : Nat → zE) : Prop := f 0 = some (kS L xs) ∧ CI f n X G P np C kp fd ft ps T ∧ RI f thr n X G P np C kp fd ft ps T ∧ (∃ o, f 284 = some (kL 1 o)) ∧ ∃ u, f 285 = some (kD 1 u)
def lwX (f : zF) (L : Nat) (xs : Nat → Int32) : Prop := ∃ (thr : Int) (n : Nat) (X : Nat → List Nat) (G : Nat → Bool) (P : Nat → List Nat) (np : Nat) (C : Nat → Nat) (kp : Nat) (fd : Int) (ft : zE) (ps : Nat) (T : Nat → zE), lwS f L xs thr n X G P np C kp fd ft ps T
theorem CI_8 (h : CI f n X G P np C kp fd ft ps T) : zisc (f 1) 8 = true := by
  obtain ⟨⟨fp, h1, -⟩, -⟩ := h
  rw [h1]
  rfl
theorem RI_9 (h : RI f thr n X G P np C kp fd ft ps T) : zisc (f 266) 9 = true := by
  obtain ⟨⟨stt, te, h1⟩, -⟩ := h
  rw [h1]
  rfl
theorem RI_t (hd : 1 ≤ d) (h : RI f thr n X G P np C kp fd ft ps T) : zrun zTb d 113 [.ref 266] f m = some (.inl (some (.int (I thr))), f, m) := by
  obtain ⟨⟨stt, te, h1⟩, -⟩ := h
  exact s_X10_thrown hd h1
/-- a call's wrapper, the reference's call, what it threw: what the law looks at -/
def lwR (Q : Int → Value → zF → Prop) (d L : Nat) (xs : Nat → Int32) (M1 M2 : Nat) (A1 A2 : List Value) (f : zF) (m : zM) : Prop := ∃ (f1 f2 : zF) (m1 : zM) (code : Int) (rv : Value), zrun zTb d M1 A1 f m = some (.inl (some (.int (I code))), f1, m1) ∧ zrun zTb d M2 A2 f1 m1 = some (.inl (some rv), f2, m1) ∧ zrun zTb d 113 [.ref 266] f2 m1 = some (.inl (some (.int (I code))), f2, m1) ∧ (code = 0 ∨ code = 1 ∨ code = 2) ∧ zisc (f1 266) 9 = true ∧ f1 0 = some (kS L xs) ∧ zisc (f2 266) 9 = true ∧ Q code rv f2 ∧ lwX f2 L xs ∧ m1.2.1 ≤ m.2.1 + 1 ∧ m1.2.2 ≤ m.2.2 + 6
def lwQi (code : Int) (rv : Value) (f : zF) : Prop := ∃ (x : Int32) (o : Nat → Int), rv = .int x ∧ f 284 = some (kL 1 o) ∧ (code = 0 → J (o 0) = x.toInt64)
def lwQl (code : Int) (rv : Value) (f : zF) : Prop := ∃ (x : Int64) (o : Nat → Int), rv = .long x ∧ f 284 = some (kL 1 o) ∧ (code = 0 → J (o 0) = x)
def lwQb (code : Int) (rv : Value) (f : zF) : Prop := ∃ (b : Bool) (o : Nat → Int), rv = .int (I (if b = true then 1 else 0)) ∧ f 284 = some (kL 1 o) ∧ (code = 0 → J (o 0) = J (if b = true then 1 else 0))
def lwQd (code : Int) (rv : Value) (f : zF) : Prop := ∃ (x : UInt64) (u : Nat → UInt64), rv = .double x ∧ f 285 = some (kD 1 u) ∧ (code = 0 → u 0 = x)
theorem lwR_ok (hd : 1 ≤ d) (hS : lwS f L xs thr n X G P np C kp fd ft ps T) (hfr : fre 1 265 f f1) (hCI : CI f1 n' X' G' P' np' C' kp' fd' ft' ps' T') (e1 : ∀ o, f1 284 = some (kL 1 o) → zrun zTb d M1 A1 f m = some (.inl (some (.int (I 0))), zup f1 284 (kL 1 (zst o 0 v)), m)) (hR : ∀ F, RI F thr n X G P np C kp fd ft ps T → ∃ f2 : zF, (∀ i, i < 266 ∨ 283 < i → f2 i = F i) ∧ zrun zTb d M2 A2 F m = some (.inl (some rv), f2, m) ∧ RI f2 0 n' X' G' P' np' C' kp' fd' ft' ps' T') (hQ : ∀ (o : Nat → Int) (f2 : zF), f2 284 = some (kL 1 o) → J (o 0) = J v → Q 0 rv f2) : lwR Q d L xs M1 M2 A1 A2 f m := by
  obtain ⟨h0, -, hRI, ⟨o, ho⟩, u, hu⟩ := hS
  have ho1 := (hfr 284 (by omega)).trans ho
  have hRF : RI (zup f1 284 (kL 1 (zst o 0 v))) thr n X G P np C kp fd ft ps T := RI_loc (fun i x1 x2 => by rw [zup_ne (by omega), hfr i (by omega)]) hRI
  obtain ⟨f2, a1, a2, a3⟩ := hR _ hRF
  have h284 : f2 284 = some (kL 1 (zst o 0 v)) := by rw [a1 284 (by omega), zup_same]
  refine ⟨_, f2, m, 0, rv, e1 o ho1, a2, RI_t hd a3, Or.inl rfl, RI_9 hRF, by rw [zup_ne (by omega), hfr 0 (by omega)]; exact h0, RI_9 a3, hQ _ f2 h284 (by rw [zst_same]), ⟨0, n', X', G', P', np', C', kp', fd', ft', ps', T', by rw [a1 0 (by omega), zup_ne (by omega), hfr 0 (by omega)]; exact h0, CI_285 (f := f1) (fun i hi => by rw [a1 i (by omega), zup_ne (by omega)]) hCI, a3, ⟨_, h284⟩, u, by rw [a1 285 (by omega), zup_ne (by omega), hfr 285 (by omega)]; exact hu⟩, by omega, by omega⟩
theorem lwR_okd {vd : UInt64} (hd : 1 ≤ d) (hS : lwS f L xs thr n X G P np C kp fd ft ps T) (hfr : fre 1 265 f f1) (hCI : CI f1 n' X' G' P' np' C' kp' fd' ft' ps' T') (e1 : ∀ u, f1 285 = some (kD 1 u) → zrun zTb d M1 A1 f m = some (.inl (some (.int (I 0))), zup f1 285 (kD 1 (zst u 0 vd)), m)) (hR : ∀ F, RI F thr n X G P np C kp fd ft ps T → ∃ f2 : zF, (∀ i, i < 266 ∨ 283 < i → f2 i = F i) ∧ zrun zTb d M2 A2 F m = some (.inl (some rv), f2, m) ∧ RI f2 0 n' X' G' P' np' C' kp' fd' ft' ps' T') (hQ : ∀ (u : Nat → UInt64) (f2 : zF), f2 285 = some (kD 1 u) → u 0 = vd → Q 0 rv f2) : lwR Q d L xs M1 M2 A1 A2 f m := by
  obtain ⟨h0, -, hRI, ⟨o, ho⟩, u, hu⟩ := hS
  have hu1 := (hfr 285 (by omega)).trans hu
  have hRF : RI (zup f1 285 (kD 1 (zst u 0 vd))) thr n X G P np C kp fd ft ps T := RI_loc (fun i x1 x2 => by rw [zup_ne (by omega), hfr i (by omega)]) hRI
  obtain ⟨f2, a1, a2, a3⟩ := hR _ hRF
  have h285 : f2 285 = some (kD 1 (zst u 0 vd)) := by rw [a1 285 (by omega), zup_same]
  refine ⟨_, f2, m, 0, rv, e1 u hu1, a2, RI_t hd a3, Or.inl rfl, RI_9 hRF, by rw [zup_ne (by omega), hfr 0 (by omega)]; exact h0, RI_9 a3, hQ _ f2 h285 (by rw [zst_same]), ⟨0, n', X', G', P', np', C', kp', fd', ft', ps', T', by rw [a1 0 (by omega), zup_ne (by omega), hfr 0 (by omega)]; exact h0, CI_285 (f := f1) (fun i hi => by rw [a1 i (by omega), zup_ne (by omega)]) hCI, a3, ⟨o, by rw [a1 284 (by omega), zup_ne (by omega), hfr 284 (by omega)]; exact ho⟩, _, h285⟩, by omega, by omega⟩
theorem lwR_x (hd : 1 ≤ d) (hS : lwS f L xs thr n X G P np C kp fd ft ps T) (hfr : fre 1 265 f f1) (hCI : CI f1 n X G P np C kp fd ft ps T) (e1 : zrun zTb d M1 A1 f m = some (.inl (some (.int (I code))), f1, (none, m.2.1 + 1, m.2.2 + 6))) (hc : code = 1 ∨ code = 2) (hR : ∀ F m2, RI F thr n X G P np C kp fd ft ps T → ∃ f2 : zF, (∀ i, i < 266 ∨ 283 < i → f2 i = F i) ∧ zrun zTb d M2 A2 F m2 = some (.inl (some rv), f2, m2) ∧ RI f2 code n X G P np C kp fd ft ps T) (hQ : ∀ (o : Nat → Int) (u : Nat → UInt64) (f2 : zF), f2 284 = some (kL 1 o) → f2 285 = some (kD 1 u) → Q code rv f2) : lwR Q d L xs M1 M2 A1 A2 f m := by
  obtain ⟨h0, -, hRI, ⟨o, ho⟩, u, hu⟩ := hS
  have hRF : RI f1 thr n X G P np C kp fd ft ps T := RI_loc (fun i x1 x2 => hfr i (by omega)) hRI
  obtain ⟨f2, a1, a2, a3⟩ := hR f1 (none, m.2.1 + 1, m.2.2 + 6) hRF
  have h284 : f2 284 = some (kL 1 o) := by rw [a1 284 (by omega), hfr 284 (by omega)]; exact ho
  have h285 : f2 285 = some (kD 1 u) := by rw [a1 285 (by omega), hfr 285 (by omega)]; exact hu
  have hf0 := (hfr 0 (by omega)).trans h0
  exact ⟨f1, f2, _, code, rv, e1, a2, RI_t hd a3, Or.inr hc, RI_9 hRF, hf0, RI_9 a3, hQ o u f2 h284 h285, ⟨code, n, X, G, P, np, C, kp, fd, ft, ps, T, (a1 0 (by omega)).trans hf0, CI_285 (f := f1) (fun i hi => a1 i (by omega)) hCI, a3, ⟨o, h284⟩, u, h285⟩, Nat.le_refl _, Nat.le_refl _⟩
end
