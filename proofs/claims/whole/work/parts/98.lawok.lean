theorem zlaw_ok : zLawOK := by
  intro L xs hL
  obtain ⟨f1, k1, s1, e1, hX, ek, es⟩ := lw_start (d := 250) (f := zf0 L xs) (L := L) (xs := xs) (k := 0) (s := 0) (by omega) rfl
  obtain ⟨f2, m2, e2, k3, k4⟩ := lw_l (d := 250) (L := L) (xs := xs) (by omega) hL 512 0 f1 (some 286, k1, s1) .null .null .null (by omega) (by omega) hX
  refine ⟨250, f2, m2, by omega, ?_, ?_, ?_⟩
  · rw [I_one]
    exact e1.trans e2
  · have : m2.2.1 ≤ k1 + 512 := k3
    omega
  · have : m2.2.2 ≤ s1 + 6 * 512 := k4
    omega
