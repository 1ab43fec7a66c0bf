/-! SPECS: patterns made by hand: trees -/
section
variable {d n k p q : Nat} {f : zF} {m : zM} {K L Z K2 L2 Z2 : Nat → Int} {t u : zE} {c : Int}
theorem rep_congr {K L Z K' L' Z' : Nat → Int} {o o' : Nat} {ns : List (Nat × Nat × Nat)} (h : rep K L Z o ns) (hc : ∀ i, i < ns.length → K' (o' + i) = K (o + i) ∧ L' (o' + i) = L (o + i) ∧ Z' (o' + i) = Z (o + i)) : rep K' L' Z' o' ns := by
  intro i hi
  obtain ⟨a, b, c⟩ := h i hi
  obtain ⟨a', b', c'⟩ := hc i hi
  exact ⟨a'.trans a, b'.trans b, c'.trans c⟩
def leaf (k l : Nat) : zE := if k = 0 then .num 0 else if k = 1 then .num 1 else .var l
def wrp (k : Nat) (t : zE) : zE := if k = 3 then .neg t else .mulL 0 t
def jnd (k : Nat) (t u : zE) : zE := if k = 5 then .sub t u else .add t u
/-- letters stand at letter nodes alone -/
theorem nd_l0 (t : zE) : ∀ a ∈ nd t, a.1 ≠ 2 → a.2.1 = 0 := by
  induction t with
  | num v => intro a ha _; rw [List.mem_singleton.mp (show a ∈ [(if v = 0 then 0 else 1, 0, 1)] from ha)]
  | var v => intro a ha h; rw [List.mem_singleton.mp (show a ∈ [(2, v, 1)] from ha)] at h; exact absurd rfl h
  | mulR p v ih => intro a ha _; rw [List.mem_singleton.mp (show a ∈ [(0, 0, 1)] from ha)]
  | neg p ih =>
    intro a ha h2
    rcases List.mem_cons.mp (show a ∈ (3, 0, sz p + 1) :: nd p from ha) with h | h
    · rw [h]
    · exact ih a h h2
  | mulL v p ih =>
    intro a ha h2
    rcases List.mem_cons.mp (show a ∈ (4, 0, sz p + 1) :: nd p from ha) with h | h
    · rw [h]
    · exact ih a h h2
  | sub p q ih1 ih2 =>
    intro a ha h2
    rcases List.mem_cons.mp (show a ∈ (5, 0, sz p + sz q + 1) :: (nd p ++ nd q) from ha) with h | h
    · rw [h]
    · rcases List.mem_append.mp h with h | h
      · exact ih1 a h h2
      · exact ih2 a h h2
  | add p q ih1 ih2 =>
    intro a ha h2
    rcases List.mem_cons.mp (show a ∈ (6, 0, sz p + sz q + 1) :: (nd p ++ nd q) from ha) with h | h
    · rw [h]
    · rcases List.mem_append.mp h with h | h
      · exact ih1 a h h2
      · exact ih2 a h h2
theorem rep_pl2 {o : Nat} (h : rep K L Z o (nd t)) {i : Nat} (hi : i < sz t) : pl2 K L (o + i) = L (o + i) := by
  obtain ⟨a, b, c⟩ := h i (by rw [nd_len]; exact hi)
  unfold pl2
  split
  · rfl
  · rename_i h2
    rw [b]
    have hm : (nd t).getD i (0, 0, 0) ∈ nd t := by
      have hl : i < (nd t).length := by rw [nd_len]; exact hi
      rw [List.getD_eq_getElem?_getD, List.getElem?_eq_getElem hl]
      exact List.getElem_mem hl
    have := nd_l0 t _ hm (by rw [a] at h2; omega)
    rw [this]; rfl
theorem pt_K (h : rep K L Z 0 (nd t)) : ∀ i, i < sz t → 0 ≤ K i ∧ K i < 7 := by
  intro i hi
  have h1 := (h i (by rw [nd_len]; exact hi)).1
  have h2 := pt_kinds t i
  rw [Nat.zero_add] at h1
  omega
theorem pt_leaf {l : Int} (hd : 2 ≤ d) (hp : wfp f p) (hk : k ≤ 2) (hl : k = 2 → 0 ≤ l ∧ l < 256) : ∃ f', zrun zTb d 18 [.ref p, .int (I (k : Int)), .int (I l)] f m = some (.inl none, f', m) ∧ fre p (p + 3) f f' ∧ pt f' p (leaf k l.toNat) := by
  obtain ⟨c, K, L, Z, hpat, hL⟩ := hp
  refine ⟨_, s_X2_becomeLeaf hd hpat (by omega), fre_setp, ?_⟩
  have hs : sz (leaf k l.toNat) = 1 := by
    unfold leaf
    split
    · rfl
    · split <;> rfl
  refine ⟨_, _, _, by rw [hs]; exact pat_setp, ?_, fun i => ?_⟩
  · have hn : nd (leaf k l.toNat) = [(k, if k = 2 then l.toNat else 0, 1)] := by
      unfold leaf
      rcases (show k = 0 ∨ k = 1 ∨ k = 2 by omega) with rfl | rfl | rfl <;> rfl
    rw [hn]
    refine rep_cons.mpr ⟨⟨zst_same, ?_, zst_same⟩, fun i hi => by cases hi⟩
    rw [zst_same]
    by_cases h2 : k = 2
    · rw [if_pos (by omega), if_pos h2]; have := hl h2; show l = (l.toNat : Int); omega
    · rw [if_neg (by omega), if_neg h2]; rfl
  · by_cases h0 : i = 0
    · rw [h0, zst_same]
      split
      · exact hl (by omega)
      · omega
    · rw [zst_ne h0]; exact hL i
theorem pt_wrap (hd : 2 ≤ d) (hp : pt f p t) (hk : k = 3 ∨ k = 4) (h60 : sz t < 60) : ∃ f', zrun zTb d 20 [.ref p, .int (I (k : Int))] f m = some (.inl none, f', m) ∧ fre p (p + 3) f f' ∧ pt f' p (wrp k t) := by
  obtain ⟨K, L, Z, hpat, hr, hL⟩ := hp
  refine ⟨_, s_X2_becomeWrapped hd hpat h60, fre_setp, ?_⟩
  have hs : sz (wrp k t) = sz t + 1 := by unfold wrp; split <;> rfl
  refine ⟨_, _, _, by rw [hs]; exact pat_setp, ?_, fun i => ?_⟩
  · have hn : nd (wrp k t) = (k, 0, sz t + 1) :: nd t := by
      unfold wrp
      rcases hk with rfl | rfl <;> rfl
    rw [hn]
    refine rep_cons.mpr ⟨⟨zst_same, zst_same, zst_same⟩, rep_congr hr fun i hi => ?_⟩
    rw [nd_len] at hi
    refine ⟨?_, ?_, ?_⟩ <;> rw [zst_ne (by omega)] <;> unfold psh <;> rw [if_pos (by omega)] <;> congr 1 <;> omega
  · by_cases h0 : i = 0
    · rw [h0, zst_same]; omega
    · rw [zst_ne h0]; unfold psh; split <;> exact hL _
theorem pt_join (hd : 3 ≤ d) (hp : pt f p t) (hq : pt f q u) (hpq : q + 3 < p ∨ p + 3 < q) (hk : k = 5 ∨ k = 6) (h60 : sz t + sz u < 60) : ∃ f', zrun zTb d 21 [.ref p, .int (I (k : Int)), .ref q] f m = some (.inl none, f', m) ∧ fre p (p + 3) f f' ∧ pt f' p (jnd k t u) := by
  obtain ⟨K, L, Z, hpat, hr, hL⟩ := hp
  obtain ⟨K2, L2, Z2, hpat2, hr2, hL2⟩ := hq
  refine ⟨_, s_X2_becomeJoined hd hpat hpat2 hpq h60 (pt_K hr2), fre_setp, ?_⟩
  have hs : sz (jnd k t u) = sz t + 1 + sz u := by unfold jnd; split <;> (show sz t + sz u + 1 = _; omega)
  refine ⟨_, _, _, by rw [hs]; exact pat_setp, ?_, fun i => ?_⟩
  · have hn : nd (jnd k t u) = (k, 0, sz t + 1 + sz u) :: (nd t ++ nd u) := by
      unfold jnd
      rcases hk with rfl | rfl
      · rw [if_pos rfl, show sz t + 1 + sz u = sz t + sz u + 1 by omega]; rfl
      · rw [if_neg (by omega), show sz t + 1 + sz u = sz t + sz u + 1 by omega]; rfl
    rw [hn]
    refine rep_cons.mpr ⟨⟨zst_same, ?_, zst_same⟩, (rep_app _ _).mpr ⟨rep_congr hr fun i hi => ?_, ?_⟩⟩
    · unfold papp
      rw [if_neg (by omega), zst_same]; rfl
    · rw [nd_len] at hi
      refine ⟨?_, ?_, ?_⟩
      · rw [zst_ne (by omega)]; unfold papp psh; rw [if_neg (by omega), if_pos (by omega)]; congr 1; omega
      · unfold papp; rw [if_neg (by omega), zst_ne (by omega)]; unfold psh; rw [if_pos (by omega)]; congr 1; omega
      · rw [zst_ne (by omega)]; unfold papp psh; rw [if_neg (by omega), if_pos (by omega)]; congr 1; omega
    · rw [nd_len]
      refine rep_congr hr2 fun i hi => ?_
      rw [nd_len] at hi
      have hpl := rep_pl2 hr2 hi
      refine ⟨?_, ?_, ?_⟩
      · rw [zst_ne (by omega)]; unfold papp; rw [if_pos (by omega)]; congr 1; omega
      · unfold papp; rw [if_pos (by omega), show 0 + 1 + sz t + i - (sz t + 1) = 0 + i by omega]; exact hpl
      · rw [zst_ne (by omega)]; unfold papp; rw [if_pos (by omega)]; congr 1; omega
  · unfold papp
    split
    · unfold pl2
      split
      · exact hL2 _
      · omega
    · by_cases h0 : i = 0
      · rw [h0, zst_same]; omega
      · rw [zst_ne h0]; unfold psh; split <;> exact hL _
theorem pt_copy (hd : 3 ≤ d) (hp : wfp f p) (hq : pt f q u) (hpq : q + 3 < p ∨ p + 3 < q) (h60 : sz u ≤ 60) : ∃ f', zrun zTb d 19 [.ref p, .ref q] f m = some (.inl none, f', m) ∧ fre p (p + 3) f f' ∧ pt f' p u := by
  obtain ⟨c, K, L, Z, hpat, hL⟩ := hp
  obtain ⟨K2, L2, Z2, hpat2, hr2, hL2⟩ := hq
  refine ⟨_, s_X2_becomeCopy hd hpat hpat2 hpq h60 (pt_K hr2), fre_setp, ?_⟩
  refine ⟨_, _, _, pat_setp, rep_congr hr2 fun i hi => ?_, fun i => ?_⟩
  · rw [nd_len] at hi
    have hpl := rep_pl2 hr2 hi
    refine ⟨?_, ?_, ?_⟩
    · unfold papp; rw [if_pos (by omega)]; congr 1
    · unfold papp; rw [if_pos (by omega), Nat.sub_zero]; exact hpl
    · unfold papp; rw [if_pos (by omega)]; congr 1
  · unfold papp
    split
    · unfold pl2
      split
      · exact hL2 _
      · omega
    · exact hL _
end
