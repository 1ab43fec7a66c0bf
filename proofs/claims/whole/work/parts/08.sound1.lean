/-! SOUNDNESS, its words: the abstract heap's picture in the machine's heap. Z: (places and slots, array classes, the script's address, the first new address, the script's length, its ints) -/
abbrev zZ : Type := va_G × (Nat → ClassId) × Nat × Nat × Nat × (Nat → Int32)
abbrev zZ.D (Z : zZ) : va_G := Z.1
abbrev zZ.cy (Z : zZ) : Nat → ClassId := Z.2.1
abbrev zZ.b (Z : zZ) : Nat := Z.2.2.1
abbrev zZ.o (Z : zZ) : Nat := Z.2.2.2.1
abbrev zZ.L (Z : zZ) : Nat := Z.2.2.2.2.1
abbrev zZ.xs (Z : zZ) : Nat → Int32 := Z.2.2.2.2.2
abbrev zA (Z : zZ) : Nat → Prop := fun a => Z.o ≤ a
def zad (Z : zZ) : Nat → Nat
  | 0 => Z.b
  | i + 1 => Z.o + i
def zcv (Z : zZ) : Value → Value
  | .ref i => .ref (zad Z i)
  | v => v
def zca (Z : zZ) : vp_A → vp_A
  | (n, .inl g) => (n, .inl g)
  | (n, .inr (.inl g)) => (n, .inr (.inl g))
  | (n, .inr (.inr (.inl g))) => (n, .inr (.inr (.inl g)))
  | (n, .inr (.inr (.inr (.inl g)))) => (n, .inr (.inr (.inr (.inl g))))
  | (n, .inr (.inr (.inr (.inr g)))) => (n, .inr (.inr (.inr (.inr (fun j => (g j).map (zad Z))))))
def zce (Z : zZ) : zC → va_E
  | .inl (t, x) => .inl (Z.cy t, zca Z x)
  | .inr (c, fs) => .inr (c, fs.map (zcv Z))
def zws (Z : zZ) (f : zF) (N : Nat) : va_W := (List.range N).map (fun i => (Z.o + i, zce Z ((f (i + 1)).getD (.inr (0, [])))))
def ztys (Z : zZ) : List (ClassId × FieldType) := (List.range 8).map (fun t => (Z.cy t, zty t))
def zHR (Z : zZ) (f : zF) (m : zM) (H : Heap) : Prop := ∃ N, (∀ i, (f i).isSome = decide (i < N + 1)) ∧ va_P Z.D vwCl (zws Z f N) H ∧ f 0 = some (.inl (8, (Z.L, .inl Z.xs))) ∧
  (∀ i t x, 0 < i → f i = some (.inl (t, x)) → t < 8) ∧ ∀ n, m.1 = some n → n = N + 1 ∧ H.size = Z.o + N
def zL (Z : zZ) (nL : Nat) (ls : List Value) (LS : Array Slot) : Prop := ls.length = nL ∧ LS.size = nL ∧ lv_wf LS ∧ ∀ (i : Nat) (v : Value), ls[i]? = some v → v ≠ .null → LS[i]? = some (.val (zcv Z v))
def zK (Z : zZ) (U : State) : Prop := va_K Z.D vwCl (ztys Z) U ∧ (∀ E E', E < 3 → E' < 3 → E ≠ E' → va_Nc (zexn E) (zexn E') U) ∧ (∀ q ∈ zStrs, ∃ a, vk_R "PatternFinder" q.1 q.2 a U) ∧
  (∀ q ∈ zNests, va_Nw (.methodLinkNest q.1 q.2.1 q.2.2 "PatternFinder") U) ∧ va_AO "PatternFinder$Pattern" U ∧ va_AOA .int U ∧ va_AOA .long U ∧
  (∀ e, e < 3 → va_Nw (.castable (zexn e) (zexn e)) U) ∧ (∀ Y ∈ zdcl, va_Nw (.declares ⟨Y, "<init>", "(Ljava/lang/String;)V"⟩) U)
def zS (Z : zZ) (U : State) (H : Heap) : Prop := vx_Zq Bundle.tN "UNASSIGNED_STACK" Bundle.steD (zA Z) U H ∧ vx_Zq Bundle.tN "SUPPRESSED_SENTINEL" Bundle.listD (zA Z) U H ∧ va_X Z.b Z.L Z.xs U H ∧ Z.b < Z.o ∧ Z.o ≤ H.size
theorem zad_inj {Z : zZ} (h : Z.b < Z.o) {i j : Nat} (e : zad Z i = zad Z j) : i = j := by
  cases i <;> cases j <;> simp only [zad] at e <;> omega
theorem zcv_cat (Z : zZ) (v : Value) : (zcv Z v).category = v.category := by cases v <;> rfl
theorem zcv_int (Z : zZ) (x : Int32) : zcv Z (.int x) = .int x := rfl
theorem zws_at {Z : zZ} {f : zF} {N i : Nat} {c : zC} (hi : i < N) (hf : f (i + 1) = some c) : (zws Z f N)[i]? = some (zad Z (i + 1), zce Z c) := by
  simp [zws, hi, hf, zad]
theorem zws_len (Z : zZ) (f : zF) (N : Nat) : (zws Z f N).length = N := by simp [zws]
theorem zws_set {Z : zZ} {f : zF} {N i : Nat} {c : zC} (hi : i < N) : (zws Z f N).set i (zad Z (i + 1), zce Z c) = zws Z (zup f (i + 1) c) N := by
  refine List.ext_getElem (by simp [zws]) fun j h1 h2 => ?_
  rw [List.getElem_set]
  by_cases h : i = j
  · subst h
    simp [zws, zup, zad]
  · rw [if_neg h]
    simp [zws, zup, Ne.symm h]
theorem zws_get {Z : zZ} {f : zF} {N k9 : Nat} {q9 : Nat × va_E} (h : (zws Z f N)[k9]? = some q9) : k9 < N ∧ q9 = (Z.o + k9, zce Z ((f (k9 + 1)).getD (.inr (0, [])))) := by
  have hl := (List.getElem?_eq_some_iff.mp h).1
  rw [zws_len] at hl
  simp only [zws, List.getElem?_map, List.getElem?_range hl, Option.map_some, Option.some.injEq] at h
  exact ⟨hl, h.symm⟩
theorem zws_D (Z : zZ) (f : zF) (N : Nat) : va_D (zA Z) (zws Z f N) := by
  refine ⟨fun i j p q hi hj he => ?_, fun k q hk => ?_⟩
  · obtain ⟨-, rfl⟩ := zws_get hi
    obtain ⟨-, rfl⟩ := zws_get hj
    dsimp only at he
    omega
  · obtain ⟨-, rfl⟩ := zws_get hk
    exact Nat.le_add_right _ _
theorem zHR.cell {Z : zZ} {f : zF} {m : zM} {H : Heap} (h : zHR Z f m H) {p : Nat} {c : zC} (hp : f p = some c) (ht : ∀ x, c ≠ .inl (8, x)) : ∃ N i, p = i + 1 ∧ i < N ∧ va_P Z.D vwCl (zws Z f N) H ∧ (zws Z f N)[i]? = some (zad Z p, zce Z c) := by
  obtain ⟨N, h1, h2, h3, h4, -⟩ := h
  cases p with
  | zero => rw [h3] at hp; cases hp; exact absurd rfl (ht _)
  | succ i =>
    have hi : i < N := by
      have := h1 (i + 1)
      rw [hp] at this
      simpa using this.symm
    exact ⟨N, i, rfl, hi, h2, zws_at hi hp⟩
theorem zHR.tag {Z : zZ} {f : zF} {m : zM} {H : Heap} (h : zHR Z f m H) {p t : Nat} {x : vp_A} (hp : f p = some (.inl (t, x))) : t < 8 ∨ (t = 8 ∧ p = 0 ∧ x = (Z.L, .inl Z.xs)) := by
  obtain ⟨N, h1, h2, h3, h4, -⟩ := h
  cases p with
  | zero => rw [h3] at hp; cases hp; exact Or.inr ⟨rfl, rfl, rfl⟩
  | succ i => exact Or.inl (h4 _ _ _ (Nat.succ_pos i) hp)
theorem zHR.set {Z : zZ} {f : zF} {m : zM} {H H1 : Heap} (h : zHR Z f m H) {p : Nat} {c0 c : zC} (hp : f p = some c0) (h0 : ∀ x, c0 ≠ .inl (8, x)) (hc : ∀ t x, c = .inl (t, x) → t < 8)
    (hat : va_at Z.D vwCl (zad Z p, zce Z c) H1) (z : H1.size = H.size) (oq : ∀ q, q ≠ zad Z p → H1[q]? = H[q]?) : zHR Z (zup f p c) m H1 := by
  obtain ⟨N, i, rfl, hi, hP, hw⟩ := h.cell hp h0
  obtain ⟨N', h1, h2, h3, h4, h5⟩ := h
  have hN : N' = N ∨ True := Or.inr trivial
  have hi' : i < N' := by
    have := h1 (i + 1)
    rw [hp] at this
    simpa using this.symm
  refine ⟨N', fun j => ?_, ?_, ?_, fun j t x hj hx => ?_, fun n hn => by rw [z]; exact h5 n hn⟩
  · by_cases hj : j = i + 1
    · subst hj; simp [zup, hi']
    · simp [zup, hj, h1]
  · rw [← zws_set hi']
    exact h2.set (zws_D Z f N') (zws_at hi' hp) hat oq
  · simp only [zup]
    rw [if_neg (by omega)]
    exact h3
  · by_cases hj2 : j = i + 1
    · subst hj2
      simp only [zup, if_true] at hx
      exact hc t x (Option.some.inj hx)
    · simp only [zup, if_neg hj2] at hx
      exact h4 j t x hj hx
theorem zHR.any {Z : zZ} {f : zF} {m : zM} {H : Heap} (h : zHR Z f m H) {k n : Nat} : zHR Z f (none, k, n) H := by
  obtain ⟨N, h1, h2, h3, h4, -⟩ := h
  exact ⟨N, h1, h2, h3, h4, fun _ h => by cases h⟩
theorem zHR.kept {Z : zZ} {f : zF} {m : zM} {H H1 : Heap} (h : zHR Z f m H) (hm : m.1 = none) (hq : ∀ q, q < H.size → H1[q]? = H[q]?) : zHR Z f m H1 := by
  obtain ⟨N, h1, h2, h3, h4, -⟩ := h
  exact ⟨N, h1, h2.kept (fun k q hk => hq _ ((h2 k q hk).lt)), h3, h4, fun n hn => by rw [hm] at hn; cases hn⟩
/-- locals that are known, as the rows have them -/
def zalo (Z : zZ) (ls : List Value) : List (Nat × Value) := (List.range ls.length).filterMap (fun j => if ls.getD j .null = .null then none else some (j, zcv Z (ls.getD j .null)))
theorem zalo_mem {Z : zZ} {ls : List Value} {i : Nat} {w : Value} : (i, w) ∈ zalo Z ls ↔ i < ls.length ∧ ls.getD i .null ≠ .null ∧ w = zcv Z (ls.getD i .null) := by
  simp only [zalo, List.mem_filterMap, List.mem_range]
  constructor
  · rintro ⟨j, hj, h⟩
    by_cases hz : ls.getD j .null = .null
    · rw [if_pos hz] at h; cases h
    · rw [if_neg hz] at h; cases h; exact ⟨hj, hz, rfl⟩
  · rintro ⟨h1, h2, h3⟩
    exact ⟨i, h1, by rw [if_neg h2, h3]⟩
theorem getD_some {ls : List Value} {i : Nat} {v : Value} (h : ls.getD i .null = v) (hv : v ≠ .null) : ls[i]? = some v := by
  rw [List.getD_eq_getElem?_getD] at h
  cases hg : ls[i]? with
  | none => rw [hg] at h; exact absurd h.symm hv
  | some w => rw [hg] at h; exact congrArg some h
theorem zL.has {Z : zZ} {nL : Nat} {ls : List Value} {LS : Array Slot} (h : zL Z nL ls LS) : lv_has LS nL (zalo Z ls) := by
  refine ⟨h.2.1, h.2.2.1, fun q hq => ?_⟩
  obtain ⟨i, w⟩ := q
  obtain ⟨h1, h2, rfl⟩ := zalo_mem.mp hq
  exact h.2.2.2 i _ (getD_some rfl h2) h2
theorem zL.at {Z : zZ} {nL : Nat} {ls : List Value} {LS : Array Slot} (h : zL Z nL ls LS) {i : Nat} {v : Value} (hg : ls.getD i .null = v) (hv : v ≠ .null) : LS[i]? = some (.val (zcv Z v)) := h.2.2.2 i v (getD_some hg hv) hv
theorem zL.of {Z : zZ} {nL : Nat} {ls : List Value} {LS : Array Slot} {lv : List (Nat × Value)} (hh : lv_has LS nL lv) (hn : ls.length = nL) (hm : ∀ i, i < nL → ls.getD i .null ≠ .null → (i, zcv Z (ls.getD i .null)) ∈ lv) : zL Z nL ls LS := by
  refine ⟨hn, hh.1, hh.2.1, fun i v hv hz => ?_⟩
  have hi : i < ls.length := (List.getElem?_eq_some_iff.mp hv).1
  have hg : ls.getD i .null = v := by rw [List.getD_eq_getElem?_getD, hv]; rfl
  have := hm i (by rw [← hn]; exact hi) (by rw [hg]; exact hz)
  rw [hg] at this
  exact hh.2.2 _ this
theorem zset_len : ∀ (ls : List Value) (i : Nat) (v : Value), (zset ls i v).length = ls.length
  | [], _, _ => rfl
  | _ :: r, 0, v => rfl
  | a :: r, 1, v => by simp [zset, zset_len r 0 v]
  | a :: r, n + 2, v => by simp [zset, zset_len r (n + 1) v]
theorem zset_get : ∀ (ls : List Value) (i : Nat) (v : Value) (j : Nat), i < ls.length → (zset ls i v).getD j .null = if j = i then v else if j + 1 = i then zclr (ls.getD j .null) else ls.getD j .null
  | [], _, _, _, h => by simp at h
  | a :: r, 0, v, 0, _ => by simp [zset]
  | a :: r, 0, v, j + 1, _ => by simp [zset]
  | a :: r, 1, v, 0, _ => by simp [zset]
  | a :: r, 1, v, j + 1, h => by
    have := zset_get r 0 v j (by simp at h; omega)
    simp only [zset, List.getD_cons_succ]
    rw [this]
    simp
  | a :: r, n + 2, v, 0, _ => by simp [zset]
  | a :: r, n + 2, v, j + 1, h => by
    have := zset_get r (n + 1) v j (by simp at h; omega)
    simp only [zset, List.getD_cons_succ]
    rw [this]
    simp
theorem zclr_ok {v : Value} (h : zclr v ≠ .null) : zclr v = v ∧ v.category ≠ 2 := by
  cases v <;> simp [zclr, Value.category] at h ⊢
theorem zL.set1 {Z : zZ} {nL i : Nat} {ls : List Value} {LS : Array Slot} {w x : Value} (hn : ls.length = nL) (hi : i < nL) (hw : w ≠ .null → x = zcv Z w)
    (hh : lv_has LS nL ((i, x) :: (zalo Z ls).filter (fun q => !(q.1 == i) && !(q.1 + 1 == i && q.2.category == 2)))) : zL Z nL (zset ls i w) LS := by
  refine zL.of hh (by rw [zset_len]; exact hn) fun j hj hz => ?_
  rw [zset_get _ _ _ _ (by rw [hn]; exact hi)] at hz ⊢
  by_cases h1 : j = i
  · subst h1
    simp only [if_true] at hz ⊢
    rw [hw hz]
    exact List.mem_cons_self
  · simp only [if_neg h1] at hz ⊢
    refine List.mem_cons_of_mem _ (List.mem_filter.mpr ?_)
    by_cases h2 : j + 1 = i
    · simp only [if_pos h2] at hz ⊢
      obtain ⟨e1, e2⟩ := zclr_ok hz
      rw [e1] at hz ⊢
      have e3 : ((zcv Z (ls.getD j .null)).category == 2) = false := by rw [zcv_cat]; exact beq_false_of_ne e2
      refine ⟨zalo_mem.mpr ⟨by rw [hn]; exact hj, hz, rfl⟩, ?_⟩
      show (!(j == i) && !(j + 1 == i && (zcv Z (ls.getD j .null)).category == 2)) = true
      rw [e3, beq_false_of_ne h1, Bool.and_false]
      rfl
    · simp only [if_neg h2] at hz ⊢
      exact ⟨zalo_mem.mpr ⟨by rw [hn]; exact hj, hz, rfl⟩, by simp [h1, h2]⟩
theorem zset2_len (ls : List Value) (i : Nat) (v : Value) : (zset2 ls i v).length = ls.length := by simp [zset2, zset_len]
theorem zL.set2 {Z : zZ} {nL i : Nat} {ls : List Value} {LS : Array Slot} {w x : Value} (hn : ls.length = nL) (hi : i + 1 < nL) (hw : x = zcv Z w)
    (hh : lv_has LS nL ((i, x) :: (zalo Z ls).filter (fun q => !(q.1 == i) && (!(q.1 == i + 1) && !(q.1 + 1 == i && q.2.category == 2))))) : zL Z nL (zset2 ls i w) LS := by
  refine zL.of hh (by rw [zset2_len]; exact hn) fun j hj hz => ?_
  have e : (zset2 ls i w).getD j .null = if j = i + 1 then .null else (zset ls i w).getD j .null := by
    simp only [zset2, List.getD_eq_getElem?_getD, List.getElem?_set]
    by_cases h : i + 1 = j
    · subst h
      rw [if_pos rfl, if_pos rfl, if_pos (by rw [zset_len, hn]; exact hi)]
      rfl
    · rw [if_neg h, if_neg (Ne.symm h)]
  rw [e] at hz ⊢
  by_cases h0 : j = i + 1
  · rw [if_pos h0] at hz; exact absurd rfl hz
  · rw [if_neg h0] at hz ⊢
    rw [zset_get _ _ _ _ (by rw [hn]; omega)] at hz ⊢
    by_cases h1 : j = i
    · subst h1
      simp only [if_true] at hz ⊢
      rw [hw]
      exact List.mem_cons_self
    · simp only [if_neg h1] at hz ⊢
      refine List.mem_cons_of_mem _ (List.mem_filter.mpr ?_)
      by_cases h2 : j + 1 = i
      · simp only [if_pos h2] at hz ⊢
        obtain ⟨e1, e2⟩ := zclr_ok hz
        rw [e1] at hz ⊢
        have e3 : ((zcv Z (ls.getD j .null)).category == 2) = false := by rw [zcv_cat]; exact beq_false_of_ne e2
        refine ⟨zalo_mem.mpr ⟨by rw [hn]; exact hj, hz, rfl⟩, ?_⟩
        show (!(j == i) && (!(j == i + 1) && !(j + 1 == i && (zcv Z (ls.getD j .null)).category == 2))) = true
        rw [e3, beq_false_of_ne h1, beq_false_of_ne h0, Bool.and_false]
        rfl
      · simp only [if_neg h2] at hz ⊢
        exact ⟨zalo_mem.mpr ⟨by rw [hn]; exact hj, hz, rfl⟩, by simp [h1, h2, h0]⟩
theorem zib_in {j : Int32} {n : Nat} (h : zib j n = true) : vp_in j n := by
  simp only [zib, Bool.and_eq_true, decide_eq_true_eq] at h
  rintro (q | q)
  · exact h.1 q
  · omega
theorem zok_ok (Z : zZ) {t : FieldType} {v : Value} (h : zok t v = true) : narrow t (zcv Z v) = zcv Z v ∧ fits t (zcv Z v) = true := by
  cases t <;> cases v <;> simp only [zok, decide_eq_true_eq, reduceCtorEq] at h <;> first | exact ⟨rfl, rfl⟩ | skip
  rcases h with rfl | rfl
  · exact (by decide : narrow .boolean (.int 0) = .int 0 ∧ fits .boolean (.int 0) = true)
  · exact (by decide : narrow .boolean (.int 1) = .int 1 ∧ fits .boolean (.int 1) = true)
set_option maxRecDepth 100000 in
/-- the classes of the table -/
theorem zcl_ok : ∀ (ci : Nat) (r : vw_C), vwCl[ci]? = some r → zGood (u_ws r.1 r.2.1 r.2.2) ∧ (∀ k, k < r.2.2 → parseFieldDescriptor (r.2.1 k).2.2.1 = some (zfty ci k)) ∧ (∀ a, a < r.2.2 → ∀ b, b < r.2.2 → a ≠ b → (r.2.1 a).2.1 ≠ (r.2.1 b).2.1) ∧ r.2.2 = zfn.getD ci 0 := by
  intro ci r h
  match ci, h with
  | 0, h => cases h; exact ⟨(by decide +kernel : ∀ w ∈ u_ws RX0 TX0 (zfn.getD 0 0), w ∈ lw_tbl ∧ goodWord w = true), tyX0_ok, nmX0, rfl⟩
  | 1, h => cases h; exact ⟨(by decide +kernel : ∀ w ∈ u_ws RX1 TX1 (zfn.getD 1 0), w ∈ lw_tbl ∧ goodWord w = true), tyX1_ok, nmX1, rfl⟩
  | 2, h => cases h; exact ⟨(by decide +kernel : ∀ w ∈ u_ws RX2 TX2 (zfn.getD 2 0), w ∈ lw_tbl ∧ goodWord w = true), tyX2_ok, nmX2, rfl⟩
  | 3, h => cases h; exact ⟨(by decide +kernel : ∀ w ∈ u_ws RX3 TX3 (zfn.getD 3 0), w ∈ lw_tbl ∧ goodWord w = true), tyX3_ok, nmX3, rfl⟩
  | 4, h => cases h; exact ⟨(by decide +kernel : ∀ w ∈ u_ws RX4 TX4 (zfn.getD 4 0), w ∈ lw_tbl ∧ goodWord w = true), tyX4_ok, nmX4, rfl⟩
  | 5, h => cases h; exact ⟨(by decide +kernel : ∀ w ∈ u_ws RX5 TX5 (zfn.getD 5 0), w ∈ lw_tbl ∧ goodWord w = true), tyX5_ok, nmX5, rfl⟩
  | 6, h => cases h; exact ⟨(by decide +kernel : ∀ w ∈ u_ws RX6 TX6 (zfn.getD 6 0), w ∈ lw_tbl ∧ goodWord w = true), tyX6_ok, nmX6, rfl⟩
  | 7, h => cases h; exact ⟨(by decide +kernel : ∀ w ∈ u_ws RX7 TX7 (zfn.getD 7 0), w ∈ lw_tbl ∧ goodWord w = true), tyX7_ok, nmX7, rfl⟩
  | 8, h => cases h; exact ⟨(by decide +kernel : ∀ w ∈ u_ws RX9 TX9 (zfn.getD 8 0), w ∈ lw_tbl ∧ goodWord w = true), tyX9_ok, nmX9, rfl⟩
  | 9, h => cases h; exact ⟨(by decide +kernel : ∀ w ∈ u_ws RX10 TX10 (zfn.getD 9 0), w ∈ lw_tbl ∧ goodWord w = true), tyX10_ok, nmX10, rfl⟩
  | n + 10, h => simp [vwCl] at h
