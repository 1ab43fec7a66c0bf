/-! SOUNDNESS: a step, a walk, a method -/
def zTm : zT → zM
  | .inl x => x.2.2.2.2
  | .inr x => x.2.2
def zle (m m' : zM) : Prop := m.2.1 ≤ m'.2.1 ∧ m.2.2 ≤ m'.2.2
theorem zle.rf {m : zM} : zle m m := ⟨Nat.le_refl _, Nat.le_refl _⟩
theorem zle.tr {a b c : zM} (h : zle a b) (h' : zle b c) : zle a c := ⟨Nat.le_trans h.1 h'.1, Nat.le_trans h.2 h'.2⟩
section ZM
variable {pc len i a b t0 : Nat} {ls st : List Value} {f : zF} {m : zM} {r : zT} {off : Int}

theorem zm_znx (h : znx pc len ls st f m = some r) : zTm r = m := by
  unfold znx at h
  repeat' split at h
  all_goals first | (cases h; rfl) | cases h
theorem zm_zjp (h : zjp pc off ls st f m = some r) : zTm r = m := by
  unfold zjp at h
  repeat' split at h
  all_goals first | (cases h; rfl) | cases h
theorem zm_zldi (h : zldi pc len ls st f m i = some r) : zTm r = m := by
  unfold zldi znx at h
  repeat' split at h
  all_goals first | (cases h; rfl) | cases h
theorem zm_zldl (h : zldl pc len ls st f m i = some r) : zTm r = m := by
  unfold zldl znx at h
  repeat' split at h
  all_goals first | (cases h; rfl) | cases h
theorem zm_zldd (h : zldd pc len ls st f m i = some r) : zTm r = m := by
  unfold zldd znx at h
  repeat' split at h
  all_goals first | (cases h; rfl) | cases h
theorem zm_zlda (h : zlda pc len ls st f m i = some r) : zTm r = m := by
  unfold zlda znx at h
  repeat' split at h
  all_goals first | (cases h; rfl) | cases h
theorem zm_zsti (h : zsti pc len ls st f m i = some r) : zTm r = m := by
  unfold zsti znx at h
  repeat' split at h
  all_goals first | (cases h; rfl) | cases h
theorem zm_zstl (h : zstl pc len ls st f m i = some r) : zTm r = m := by
  unfold zstl znx at h
  repeat' split at h
  all_goals first | (cases h; rfl) | cases h
theorem zm_zstd (h : zstd pc len ls st f m i = some r) : zTm r = m := by
  unfold zstd znx at h
  repeat' split at h
  all_goals first | (cases h; rfl) | cases h
theorem zm_zsta (h : zsta pc len ls st f m i = some r) : zTm r = m := by
  unfold zsta znx at h
  repeat' split at h
  all_goals first | (cases h; rfl) | cases h
theorem zm_zgf (h : zgf pc ls st f m a b = some r) : zTm r = m := by
  unfold zgf znx at h
  repeat' split at h
  all_goals first | (cases h; rfl) | cases h
theorem zm_zpf (h : zpf pc ls st f m a b = some r) : zTm r = m := by
  unfold zpf znx at h
  repeat' split at h
  all_goals first | (cases h; rfl) | cases h
theorem zm_zali (h : zali pc ls st f m t0 = some r) : zTm r = m := by
  unfold zali znx at h
  repeat' split at h
  all_goals first | (cases h; rfl) | cases h
theorem zm_zai (h : zai pc ls st f m = some r) : zTm r = m := by
  unfold zai znx at h
  repeat' split at h
  all_goals first | (cases h; rfl) | cases h
theorem zm_zall (h : zall pc ls st f m = some r) : zTm r = m := by
  unfold zall znx at h
  repeat' split at h
  all_goals first | (cases h; rfl) | cases h
theorem zm_zald (h : zald pc ls st f m = some r) : zTm r = m := by
  unfold zald znx at h
  repeat' split at h
  all_goals first | (cases h; rfl) | cases h
theorem zm_zala (h : zala pc ls st f m = some r) : zTm r = m := by
  unfold zala znx at h
  repeat' split at h
  all_goals first | (cases h; rfl) | cases h
theorem zm_zasi (h : zasi pc ls st f m t0 = some r) : zTm r = m := by
  unfold zasi znx at h
  repeat' split at h
  all_goals first | (cases h; rfl) | cases h
theorem zm_zasl (h : zasl pc ls st f m = some r) : zTm r = m := by
  unfold zasl znx at h
  repeat' split at h
  all_goals first | (cases h; rfl) | cases h
theorem zm_zasd (h : zasd pc ls st f m = some r) : zTm r = m := by
  unfold zasd znx at h
  repeat' split at h
  all_goals first | (cases h; rfl) | cases h
theorem zm_zasa (h : zasa pc ls st f m = some r) : zTm r = m := by
  unfold zasa znx at h
  repeat' split at h
  all_goals first | (cases h; rfl) | cases h
theorem zm_zal (h : zal pc ls st f m = some r) : zTm r = m := by
  unfold zal znx at h
  repeat' split at h
  all_goals first | (cases h; rfl) | cases h
theorem zm_zif {k0 : Jvm.ClassFile.Cond} (h : zif pc ls st f m k0 off = some r) : zTm r = m := by
  unfold zif at h
  repeat' split at h
  all_goals first | (cases h; rfl) | cases h
theorem zm_zic {k0 : Jvm.ClassFile.Cond} (h : zic pc ls st f m k0 off = some r) : zTm r = m := by
  unfold zic at h
  repeat' split at h
  all_goals first | (cases h; rfl) | cases h
theorem zm_zi2 {g : Int32 → Int32 → Int32} (h : zi2 pc ls st f m g = some r) : zTm r = m := by
  unfold zi2 znx at h
  repeat' split at h
  all_goals first | (cases h; rfl) | cases h
theorem zm_zl2 {g : Int64 → Int64 → Int64} (h : zl2 pc ls st f m g = some r) : zTm r = m := by
  unfold zl2 znx at h
  repeat' split at h
  all_goals first | (cases h; rfl) | cases h
theorem zm_zls {g : Int64 → Int32 → Int64} (h : zls pc ls st f m g = some r) : zTm r = m := by
  unfold zls znx at h
  repeat' split at h
  all_goals first | (cases h; rfl) | cases h
theorem zm_zsw {dflt lo hi : Int} {offs : Array Int} (h : zsw pc ls st f m dflt lo hi offs = some r) : zTm r = m := by
  unfold zsw zjp at h
  repeat' split at h
  all_goals first | (cases h; rfl) | cases h
theorem zm_znew (h : znew pc ls st f m a = some r) : zle m (zTm r) := by
  unfold znew znx at h
  repeat' split at h
  all_goals first | (cases h; exact ⟨Nat.le_add_right _ _, Nat.le_add_right _ _⟩) | cases h
theorem zm_znwa (h : znwa pc ls st f m t0 = some r) : zle m (zTm r) := by
  unfold znwa znx at h
  repeat' split at h
  all_goals first | (cases h; exact ⟨Nat.le_add_right _ _, Nat.le_add_right _ _⟩) | cases h
theorem zm_znqa (h : znqa pc ls st f m = some r) : zle m (zTm r) := by
  unfold znqa znx at h
  repeat' split at h
  all_goals first | (cases h; exact ⟨Nat.le_add_right _ _, Nat.le_add_right _ _⟩) | cases h
theorem zm_znma (h : znma pc ls st f m t0 = some r) : zle m (zTm r) := by
  unfold znma znx at h
  repeat' split at h
  all_goals first | (cases h; exact ⟨Nat.le_add_right _ _, Nat.le_add_right _ _⟩) | cases h
end ZM
theorem zm_zinv {call : Nat → List Value → zF → zM → zR} (hc : ∀ a vs f m o f' m', call a vs f m = some (o, f', m') → zle m m') {hx : zH} {pc len a b : Nat} {ls st : List Value} {f : zF} {m : zM} {r : zT} (h : zinv call hx pc len ls st f m a b = some r) : zle m (zTm r) := by
  unfold zinv znx at h
  by_cases hb : b ≤ st.length ∧ zsz (st.drop b) ≤ 8
  · rw [if_pos hb] at h
    cases hr : call a (st.take b).reverse f m with
    | none => rw [hr] at h; cases h
    | some x =>
      obtain ⟨o, f', m'⟩ := x
      have := hc _ _ _ _ _ _ _ hr
      rw [hr] at h
      cases o with
      | inl v => cases h; exact this
      | inr E =>
        dsimp only at h
        split at h <;> (cases h; exact this)
  · rw [if_neg hb] at h; cases h
theorem zm_zinvI {call : Nat → List Value → zF → zM → zR} (hc : ∀ a vs f m o f' m', call a vs f m = some (o, f', m') → zle m m') {pc len a b : Nat} {ls st : List Value} {f : zF} {m : zM} {r : zT} (h : zinvI call pc len ls st f m a b = some r) : zle m (zTm r) := by
  unfold zinvI znx at h
  by_cases hb : b ≤ st.length ∧ zsz (st.drop b) ≤ 8
  · rw [if_pos hb] at h
    cases hr : call a (st.take b).reverse f m with
    | none => rw [hr] at h; cases h
    | some x =>
      obtain ⟨o, f', m'⟩ := x
      have := hc _ _ _ _ _ _ _ hr
      rw [hr] at h
      cases o with
      | inl v => cases h; exact this
      | inr E => cases h
  · rw [if_neg hb] at h; cases h

theorem zstp_mono {call : Nat → List Value → zF → zM → zR} (hc : ∀ a vs f m o f' m', call a vs f m = some (o, f', m') → zle m m') {rt : Option FieldType} {hx : zH} {i : zI} {ls st : List Value} {f : zF} {m : zM} {r : zT} (h : zstp call rt hx i ls st f m = some r) : zle m (zTm r) := by
  obtain ⟨pc, ins, len, a, b, c⟩ := i
  cases ins with
  | iadd => exact (zm_zi2 h) ▸ zle.rf
  | isub => exact (zm_zi2 h) ▸ zle.rf
  | imul => exact (zm_zi2 h) ▸ zle.rf
  | iand => exact (zm_zi2 h) ▸ zle.rf
  | ior => exact (zm_zi2 h) ▸ zle.rf
  | ixor => exact (zm_zi2 h) ▸ zle.rf
  | ishl => exact (zm_zi2 h) ▸ zle.rf
  | ishr => exact (zm_zi2 h) ▸ zle.rf
  | iushr => exact (zm_zi2 h) ▸ zle.rf
  | ladd => exact (zm_zl2 h) ▸ zle.rf
  | lsub => exact (zm_zl2 h) ▸ zle.rf
  | lmul => exact (zm_zl2 h) ▸ zle.rf
  | land => exact (zm_zl2 h) ▸ zle.rf
  | lor => exact (zm_zl2 h) ▸ zle.rf
  | lshl => exact (zm_zls h) ▸ zle.rf
  | lshr => exact (zm_zls h) ▸ zle.rf
  | lushr => exact (zm_zls h) ▸ zle.rf
  | iload_n k => exact (zm_zldi h) ▸ zle.rf
  | iload k => exact (zm_zldi h) ▸ zle.rf
  | lload_n k => exact (zm_zldl h) ▸ zle.rf
  | lload k => exact (zm_zldl h) ▸ zle.rf
  | dload_n k => exact (zm_zldd h) ▸ zle.rf
  | dload k => exact (zm_zldd h) ▸ zle.rf
  | aload_n k => exact (zm_zlda h) ▸ zle.rf
  | aload k => exact (zm_zlda h) ▸ zle.rf
  | istore_n k => exact (zm_zsti h) ▸ zle.rf
  | istore k => exact (zm_zsti h) ▸ zle.rf
  | lstore_n k => exact (zm_zstl h) ▸ zle.rf
  | lstore k => exact (zm_zstl h) ▸ zle.rf
  | dstore_n k => exact (zm_zstd h) ▸ zle.rf
  | dstore k => exact (zm_zstd h) ▸ zle.rf
  | astore_n k => exact (zm_zsta h) ▸ zle.rf
  | astore k => exact (zm_zsta h) ▸ zle.rf
  | ifCond k off => exact (zm_zif h) ▸ zle.rf
  | if_icmp k off => exact (zm_zic h) ▸ zle.rf
  | goto off => exact (zm_zjp h) ▸ zle.rf
  | tableswitch d lo hi offs => exact (zm_zsw h) ▸ zle.rf
  | getfield k => exact (zm_zgf h) ▸ zle.rf
  | putfield k => exact (zm_zpf h) ▸ zle.rf
  | iaload => exact (zm_zai h) ▸ zle.rf
  | laload => exact (zm_zall h) ▸ zle.rf
  | daload => exact (zm_zald h) ▸ zle.rf
  | baload => exact (zm_zali h) ▸ zle.rf
  | caload => exact (zm_zali h) ▸ zle.rf
  | aaload => exact (zm_zala h) ▸ zle.rf
  | iastore => exact (zm_zasi h) ▸ zle.rf
  | lastore => exact (zm_zasl h) ▸ zle.rf
  | dastore => exact (zm_zasd h) ▸ zle.rf
  | bastore => exact (zm_zasi h) ▸ zle.rf
  | castore => exact (zm_zasi h) ▸ zle.rf
  | aastore => exact (zm_zasa h) ▸ zle.rf
  | arraylength => exact (zm_zal h) ▸ zle.rf
  | iconst k => exact (zm_znx h) ▸ zle.rf
  | bipush k => exact (zm_znx h) ▸ zle.rf
  | sipush k => exact (zm_znx h) ▸ zle.rf
  | lconst k => exact (zm_znx h) ▸ zle.rf
  | ldc2_w k => exact (zm_znx h) ▸ zle.rf
  | newarray t => exact zm_znwa h
  | anewarray k => exact zm_znqa h
  | multianewarray k d => exact zm_znma h
  | dconst k =>
    unfold zstp znx at h
    dsimp only at h
    repeat' split at h
    all_goals first | (cases h; exact zle.rf) | cases h
  | iinc k n =>
    unfold zstp znx at h
    dsimp only at h
    repeat' split at h
    all_goals first | (cases h; exact zle.rf) | cases h
  | idiv =>
    unfold zstp znx at h
    dsimp only at h
    repeat' split at h
    all_goals first | (cases h; exact zle.rf) | cases h
  | irem =>
    unfold zstp znx at h
    dsimp only at h
    repeat' split at h
    all_goals first | (cases h; exact zle.rf) | cases h
  | ineg =>
    unfold zstp znx at h
    dsimp only at h
    repeat' split at h
    all_goals first | (cases h; exact zle.rf) | cases h
  | lcmp =>
    unfold zstp znx at h
    dsimp only at h
    repeat' split at h
    all_goals first | (cases h; exact zle.rf) | cases h
  | i2l =>
    unfold zstp znx at h
    dsimp only at h
    repeat' split at h
    all_goals first | (cases h; exact zle.rf) | cases h
  | l2i =>
    unfold zstp znx at h
    dsimp only at h
    repeat' split at h
    all_goals first | (cases h; exact zle.rf) | cases h
  | i2c =>
    unfold zstp znx at h
    dsimp only at h
    repeat' split at h
    all_goals first | (cases h; exact zle.rf) | cases h
  | i2d =>
    unfold zstp znx at h
    dsimp only at h
    repeat' split at h
    all_goals first | (cases h; exact zle.rf) | cases h
  | ddiv =>
    unfold zstp znx at h
    dsimp only at h
    repeat' split at h
    all_goals first | (cases h; exact zle.rf) | cases h
  | dcmp k =>
    unfold zstp znx at h
    dsimp only at h
    repeat' split at h
    all_goals first | (cases h; exact zle.rf) | cases h
  | dup =>
    unfold zstp znx at h
    dsimp only at h
    repeat' split at h
    all_goals first | (cases h; exact zle.rf) | cases h
  | pop =>
    unfold zstp znx at h
    dsimp only at h
    repeat' split at h
    all_goals first | (cases h; exact zle.rf) | cases h
  | dup2 =>
    unfold zstp znx at h
    dsimp only at h
    repeat' split at h
    all_goals first | (cases h; exact zle.rf) | cases h
  | ireturn =>
    unfold zstp znx at h
    dsimp only at h
    repeat' split at h
    all_goals first | (cases h; exact zle.rf) | cases h
  | lreturn =>
    unfold zstp znx at h
    dsimp only at h
    repeat' split at h
    all_goals first | (cases h; exact zle.rf) | cases h
  | dreturn =>
    unfold zstp znx at h
    dsimp only at h
    repeat' split at h
    all_goals first | (cases h; exact zle.rf) | cases h
  | areturn =>
    unfold zstp znx at h
    dsimp only at h
    repeat' split at h
    all_goals first | (cases h; exact zle.rf) | cases h
  | return_ =>
    unfold zstp znx at h
    dsimp only at h
    repeat' split at h
    all_goals first | (cases h; exact zle.rf) | cases h
  | new k =>
    unfold zstp at h
    dsimp only at h
    by_cases hb : b = 0
    · rw [if_pos hb] at h; exact zm_znew h
    · rw [if_neg hb] at h
      split at h
      · cases h; exact ⟨Nat.le_add_right _ _, Nat.le_add_right _ _⟩
      · cases h
  | invokevirtual k =>
    unfold zstp at h
    dsimp only at h
    split at h
    · exact zm_zinv hc h
    · cases h
  | invokestatic k => exact zm_zinv hc h
  | invokespecial k =>
    unfold zstp at h
    dsimp only at h
    by_cases hb : b = 0
    · rw [if_pos hb] at h
      unfold znx at h
      repeat' split at h
      all_goals first | (cases h; exact zle.rf) | cases h
    · rw [if_neg hb] at h
      split at h
      · exact zm_zinvI hc h
      · cases h
  | _ => cases h
theorem zxf_le {call : Nat → List Value → zF → zM → zR} (hc : ∀ a vs f m o f' m', call a vs f m = some (o, f', m') → zle m m') {q : zQ} : ∀ (n pc : Nat) (ls st : List Value) (f : zF) (m : zM) (o : zO) (f' : zF) (m' : zM), zxf call q n pc ls st f m = some (o, f', m') → zle m m' := by
  intro n
  induction n with
  | zero => intro pc ls st f m o f' m' h; cases h
  | succ n ih =>
    intro pc ls st f m o f' m' h
    rw [zxf] at h
    cases hi : zfe q.i pc with
    | none => rw [hi] at h; cases h
    | some i =>
      rw [hi] at h
      dsimp only at h
      cases hs : zstp call q.r q.x i ls st f m with
      | none => rw [hs] at h; cases h
      | some r =>
        rw [hs] at h
        have h1 := zstp_mono hc hs
        match r, h, h1 with
        | .inr r, h, h1 => cases h; exact h1
        | .inl (pc', ls', st', f1, m1), h, h1 => exact zle.tr h1 (ih _ _ _ _ _ _ _ _ h)
section ZS
variable {p : Program} {l : Launch} {e : Env} {R : Room} {s : State} {mm : MethodId} {args : Array Value} {below : List Frame} {meth : Method} {c : Code} {Q : State → Prop} {Z : zZ} {K0 S0 : Nat} {q : zQ} {d : Nat}
def zFx (p : Program) (l : Launch) (R : Room) (s : State) (mm : MethodId) (args : Array Value) (meth : Method) (c : Code) (Z : zZ) (q : zQ) (d : Nat) : Prop :=
  p.tables.exec = Jvm.exec ∧ c.code = q.c ∧ c.maxLocals = q.n ∧ s.vm.findClass q.y.cls = some mm.cls ∧ (∀ w ∈ lw_tbl, goodWord w = true → w.before args s = true) ∧ meth.locks = false ∧ zK Z s ∧ zS Z s s.heap ∧ (q.y.name = "<init>" → meth.name = "<init>") ∧
  c.exceptionTable.toList = tableOf q.h ∧ l.stackTraces = false ∧ d + 1 + 6 ≤ R.frames ∧ 40 * (d + 1) + 200 ≤ R.locals
theorem zchk_at {wl : List Cond} (h : zchk zTb wl q = true) : (∀ i ∈ q.i, decode q.c i.1 = .ok (i.2.1, i.2.2.1) ∧ (zlen i.2.1 ≠ 0 → i.2.2.1 = zlen i.2.1) ∧ (∀ w ∈ zneed zTb q.y.cls i, w ∈ wl) ∧ zstat zTb q i = true) ∧ plainName q.y.cls = true ∧ zhok q.y.cls q.c wl q.n q.h q.x = true := by
  simp only [zchk, Bool.and_eq_true] at h
  obtain ⟨⟨h1, h2⟩, h3⟩ := h
  refine ⟨fun i hi => ?_, h2, h3⟩
  have := List.all_eq_true.mp h1 i hi
  simp only [Bool.and_eq_true, decide_eq_true_eq, Bool.or_eq_true, List.all_eq_true] at this
  obtain ⟨⟨⟨a1, a2⟩, a3⟩, a4⟩ := this
  exact ⟨a1, fun hz => a2.resolve_left hz, a3, a4⟩
theorem zvw {a : Nat} (h : a < 10) : ∃ rr, vwCl[a]? = some rr := ⟨_, List.getElem?_eq_getElem (l := vwCl) h⟩
def zIH (l : Launch) (Z : zZ) (d : Nat) : Prop := ∀ M vs f m o f' m', zrun zTb d M vs f m = some (o, f', m') → ∃ qa, zTb[M]? = some qa ∧ zCt l Z d qa vs f m o f' m'
theorem zIH.le (h : zIH l Z d) : ∀ a vs f m o f' m', zrun zTb d a vs f m = some (o, f', m') → zle m m' := fun a vs f m o f' m' hr => by
  obtain ⟨qa, -, c1, c2, -⟩ := h _ _ _ _ _ _ _ hr
  exact ⟨c1, c2⟩
set_option maxRecDepth 20000 in
set_option maxHeartbeats 4000000 in
/-- one step that goes on -/
theorem zstep (F : zFx p l R s mm args meth c Z q d) (IH : zIH l Z d) {wl : List Cond} (hwl : zGood wl) (hchk : zchk zTb wl q = true) {i : zI} (hi : i ∈ q.i) {ls st : List Value} {f : zF} {m : zM} {r : Nat × List Value × List Value × zF × zM}
    (h : zstp (zrun zTb d) q.r q.x i ls st f m = some (.inl r)) (hRc : r.2.2.2.2.2.1 ≤ K0 + R.cells) (hRs : r.2.2.2.2.2.2 ≤ S0 + R.slots) (k : zKt p l e R s mm args below meth c Q Z q.n K0 S0 (.inl r)) : zG p l e R s mm args below meth c Q Z q.n K0 S0 i.1 ls st f m := by
  obtain ⟨hx, hb, hml, hown, hts, hlocks, hK, hX, hini, htab, hst0, hR1, hR2⟩ := F
  obtain ⟨hall, -, hhok⟩ := zchk_at hchk
  obtain ⟨hdec, hlen, hneed, hstat⟩ := hall i hi
  obtain ⟨pc, ins, len, a, b, c9⟩ := i
  dsimp only at hdec hlen hneed hstat ⊢
  have hin : ∀ w ∈ zneed zTb q.y.cls (pc, ins, len, a, b, c9), w ∈ zTs := fun w hw => List.mem_filter.mpr ⟨(hwl w (hneed w hw)).1, (hwl w (hneed w hw)).2⟩
  have hwb : ∀ w ∈ zneed zTb q.y.cls (pc, ins, len, a, b, c9), w.before args s = true := fun w hw => hts w (hwl w (hneed w hw)).1 (hwl w (hneed w hw)).2
  cases ins with
  | iadd =>
    obtain rfl : len = 1 := hlen (by simp [zlen])
    exact zs_iadd hx hb hdec h k
  | isub =>
    obtain rfl : len = 1 := hlen (by simp [zlen])
    exact zs_isub hx hb hdec h k
  | imul =>
    obtain rfl : len = 1 := hlen (by simp [zlen])
    exact zs_imul hx hb hdec h k
  | iand =>
    obtain rfl : len = 1 := hlen (by simp [zlen])
    exact zs_iand hx hb hdec h k
  | ior =>
    obtain rfl : len = 1 := hlen (by simp [zlen])
    exact zs_ior hx hb hdec h k
  | ixor =>
    obtain rfl : len = 1 := hlen (by simp [zlen])
    exact zs_ixor hx hb hdec h k
  | ishl =>
    obtain rfl : len = 1 := hlen (by simp [zlen])
    exact zs_ishl hx hb hdec h k
  | ishr =>
    obtain rfl : len = 1 := hlen (by simp [zlen])
    exact zs_ishr hx hb hdec h k
  | iushr =>
    obtain rfl : len = 1 := hlen (by simp [zlen])
    exact zs_iushr hx hb hdec h k
  | ladd =>
    obtain rfl : len = 1 := hlen (by simp [zlen])
    exact zs_ladd hx hb hdec h k
  | lsub =>
    obtain rfl : len = 1 := hlen (by simp [zlen])
    exact zs_lsub hx hb hdec h k
  | lmul =>
    obtain rfl : len = 1 := hlen (by simp [zlen])
    exact zs_lmul hx hb hdec h k
  | land =>
    obtain rfl : len = 1 := hlen (by simp [zlen])
    exact zs_land hx hb hdec h k
  | lor =>
    obtain rfl : len = 1 := hlen (by simp [zlen])
    exact zs_lor hx hb hdec h k
  | lshl =>
    obtain rfl : len = 1 := hlen (by simp [zlen])
    exact zs_lshl hx hb hdec h k
  | lshr =>
    obtain rfl : len = 1 := hlen (by simp [zlen])
    exact zs_lshr hx hb hdec h k
  | lushr =>
    obtain rfl : len = 1 := hlen (by simp [zlen])
    exact zs_lushr hx hb hdec h k
  | iload_n k1 =>
    obtain rfl : len = 1 := hlen (by simp [zlen])
    exact zs_iload_n hx hb hdec h k
  | iload k1 =>
    obtain rfl : len = 2 := hlen (by simp [zlen])
    exact zs_iload hx hb hdec h k
  | lload_n k1 =>
    obtain rfl : len = 1 := hlen (by simp [zlen])
    exact zs_lload_n hx hb hdec h k
  | lload k1 =>
    obtain rfl : len = 2 := hlen (by simp [zlen])
    exact zs_lload hx hb hdec h k
  | dload_n k1 =>
    obtain rfl : len = 1 := hlen (by simp [zlen])
    exact zs_dload_n hx hb hdec h k
  | dload k1 =>
    obtain rfl : len = 2 := hlen (by simp [zlen])
    exact zs_dload hx hb hdec h k
  | aload_n k1 =>
    obtain rfl : len = 1 := hlen (by simp [zlen])
    exact zs_aload_n hx hb hdec h k
  | aload k1 =>
    obtain rfl : len = 2 := hlen (by simp [zlen])
    exact zs_aload hx hb hdec h k
  | istore_n k1 =>
    obtain rfl : len = 1 := hlen (by simp [zlen])
    exact zs_istore_n hx hb hdec h k
  | istore k1 =>
    obtain rfl : len = 2 := hlen (by simp [zlen])
    exact zs_istore hx hb hdec h k
  | lstore_n k1 =>
    obtain rfl : len = 1 := hlen (by simp [zlen])
    exact zs_lstore_n hx hb hdec h k
  | lstore k1 =>
    obtain rfl : len = 2 := hlen (by simp [zlen])
    exact zs_lstore hx hb hdec h k
  | dstore_n k1 =>
    obtain rfl : len = 1 := hlen (by simp [zlen])
    exact zs_dstore_n hx hb hdec h k
  | dstore k1 =>
    obtain rfl : len = 2 := hlen (by simp [zlen])
    exact zs_dstore hx hb hdec h k
  | astore_n k1 =>
    obtain rfl : len = 1 := hlen (by simp [zlen])
    exact zs_astore_n hx hb hdec h k
  | astore k1 =>
    obtain rfl : len = 2 := hlen (by simp [zlen])
    exact zs_astore hx hb hdec h k
  | goto off =>
    obtain rfl : len = 3 := hlen (by simp [zlen])
    exact zs_goto hx hb hdec h k
  | iconst k1 =>
    obtain rfl : len = 1 := hlen (by simp [zlen])
    exact zs_iconst hx hb hdec h k
  | bipush k1 =>
    obtain rfl : len = 2 := hlen (by simp [zlen])
    exact zs_bipush hx hb hdec h k
  | sipush k1 =>
    obtain rfl : len = 3 := hlen (by simp [zlen])
    exact zs_sipush hx hb hdec h k
  | lconst k1 =>
    obtain rfl : len = 1 := hlen (by simp [zlen])
    exact zs_lconst hx hb hdec h k
  | ifCond k1 off =>
    obtain rfl : len = 3 := hlen (by simp [zlen])
    exact zs_if hx hb hdec h k
  | if_icmp k1 off =>
    obtain rfl : len = 3 := hlen (by simp [zlen])
    exact zs_icmp hx hb hdec h k
  | tableswitch dflt lo hi offs =>
    exact zs_sw hx hb hdec h k
  | dconst k1 =>
    obtain rfl : len = 1 := hlen (by simp [zlen])
    unfold zstp at h
    dsimp only at h
    by_cases h0 : k1 = 0
    · subst h0
      rw [if_pos rfl] at h
      exact zs_dconst hx hb hdec h k
    · rw [if_neg h0] at h; cases h
  | ldc2_w k1 =>
    obtain rfl : len = 3 := hlen (by simp [zlen])
    exact zs_ldc2 hx hb hown (hwb _ (by simp [zneed])) hdec h k
  | laload =>
    obtain rfl : len = 1 := hlen (by simp [zlen])
    exact zs_laload hx hb hK hdec h k
  | daload =>
    obtain rfl : len = 1 := hlen (by simp [zlen])
    exact zs_daload hx hb hK hdec h k
  | baload =>
    obtain rfl : len = 1 := hlen (by simp [zlen])
    exact zs_zaload hx hb hK hdec h k
  | caload =>
    obtain rfl : len = 1 := hlen (by simp [zlen])
    exact zs_caload hx hb hK hdec h k
  | aaload =>
    obtain rfl : len = 1 := hlen (by simp [zlen])
    exact zs_aaload hx hb hK hdec h k
  | iastore =>
    obtain rfl : len = 1 := hlen (by simp [zlen])
    exact zs_iastore hx hb hK hdec h k
  | bastore =>
    obtain rfl : len = 1 := hlen (by simp [zlen])
    exact zs_zastore hx hb hK hdec h k
  | castore =>
    obtain rfl : len = 1 := hlen (by simp [zlen])
    exact zs_castore hx hb hK hdec h k
  | lastore =>
    obtain rfl : len = 1 := hlen (by simp [zlen])
    exact zs_lastore hx hb hK hdec h k
  | dastore =>
    obtain rfl : len = 1 := hlen (by simp [zlen])
    exact zs_dastore hx hb hK hdec h k
  | aastore =>
    obtain rfl : len = 1 := hlen (by simp [zlen])
    exact zs_aastore hx hb hK hdec h k
  | iaload =>
    obtain rfl : len = 1 := hlen (by simp [zlen])
    exact zs_iaload hx hb hK hX hdec h k
  | arraylength =>
    obtain rfl : len = 1 := hlen (by simp [zlen])
    exact zs_alen hx hb hK hX hdec h k
  | iinc k1 n =>
    obtain rfl : len = 3 := hlen (by simp [zlen])
    unfold zstp znx at h
    dsimp only at h
    split at h
    · rename_i x hg
      cases h
      exact zs_iinc hx hb hdec hg k
    · cases h
  | ineg =>
    obtain rfl : len = 1 := hlen (by simp [zlen])
    unfold zstp znx at h
    dsimp only at h
    split at h
    · cases h
      exact zs_ineg hx hb hdec k
    · cases h
  | lcmp =>
    obtain rfl : len = 1 := hlen (by simp [zlen])
    unfold zstp znx at h
    dsimp only at h
    split at h
    · cases h
      exact zs_lcmp hx hb hdec k
    · cases h
  | i2l =>
    obtain rfl : len = 1 := hlen (by simp [zlen])
    unfold zstp znx at h
    dsimp only at h
    split at h
    · cases h
      exact zs_i2l hx hb hdec k
    · cases h
  | l2i =>
    obtain rfl : len = 1 := hlen (by simp [zlen])
    unfold zstp znx at h
    dsimp only at h
    split at h
    · cases h
      exact zs_l2i hx hb hdec k
    · cases h
  | i2c =>
    obtain rfl : len = 1 := hlen (by simp [zlen])
    unfold zstp znx at h
    dsimp only at h
    split at h
    · cases h
      exact zs_i2c hx hb hdec k
    · cases h
  | i2d =>
    obtain rfl : len = 1 := hlen (by simp [zlen])
    unfold zstp znx at h
    dsimp only at h
    split at h
    · cases h
      exact zs_i2d hx hb hdec k
    · cases h
  | dcmp k1 =>
    obtain rfl : len = 1 := hlen (by simp [zlen])
    unfold zstp znx at h
    dsimp only at h
    split at h
    · cases h
      exact zs_dcmp hx hb hdec k
    · cases h
  | dup =>
    obtain rfl : len = 1 := hlen (by simp [zlen])
    unfold zstp znx at h
    dsimp only at h
    split at h
    · cases h
      exact zs_dupi hx hb hdec k
    · cases h
      exact zs_dupa hx hb hdec k
    · cases h
  | pop =>
    obtain rfl : len = 1 := hlen (by simp [zlen])
    unfold zstp znx at h
    dsimp only at h
    split at h
    · cases h
      exact zs_popi hx hb hdec k
    · cases h
      exact zs_popa hx hb hdec k
    · cases h
  | dup2 =>
    obtain rfl : len = 1 := hlen (by simp [zlen])
    unfold zstp znx at h
    dsimp only at h
    split at h
    · cases h
      exact zs_dup2ia hx hb hdec k
    · cases h
      exact zs_dup2l hx hb hdec k
    · cases h
  | idiv =>
    obtain rfl : len = 1 := hlen (by simp [zlen])
    unfold zstp znx at h
    dsimp only at h
    split at h
    · rename_i y x0 r0
      by_cases h0 : y = 0
      · rw [if_pos h0] at h; cases h
      · rw [if_neg h0] at h
        cases h
        exact zs_idiv hx hb h0 hdec k
    · cases h
  | irem =>
    obtain rfl : len = 1 := hlen (by simp [zlen])
    unfold zstp znx at h
    dsimp only at h
    split at h
    · rename_i y x0 r0
      by_cases h0 : y = 0
      · rw [if_pos h0] at h; cases h
      · rw [if_neg h0] at h
        cases h
        exact zs_irem hx hb h0 hdec k
    · cases h
  | ddiv =>
    obtain rfl : len = 1 := hlen (by simp [zlen])
    unfold zstp znx at h
    dsimp only at h
    split at h
    · split at h
      · rename_i h0
        cases h
        exact zs_ddiv hx hb h0 hdec k
      · cases h
    · cases h
  | getfield k1 =>
    obtain rfl : len = 3 := hlen (by simp [zlen])
    simp only [zstat, Bool.and_eq_true, decide_eq_true_eq] at hstat
    obtain ⟨ha, hbN⟩ := hstat
    obtain ⟨rr, hc⟩ := zvw ha
    have hN := (zcl_ok a rr hc).2.2.2
    exact zs_getfield hx hb hK hts hown hc (by rw [hN]; exact hbN) (hwb _ (by simp [zneed, hc])) hdec h k
  | putfield k1 =>
    obtain rfl : len = 3 := hlen (by simp [zlen])
    simp only [zstat, Bool.and_eq_true, decide_eq_true_eq] at hstat
    obtain ⟨⟨ha, hbN⟩, hfin⟩ := hstat
    obtain ⟨rr, hc⟩ := zvw ha
    have hN := (zcl_ok a rr hc).2.2.2
    rw [hc] at hfin
    dsimp only at hfin
    have hfin' : (rr.2.1 b).2.2.2 = false ∨ ((rr.2.1 b).2.2.2 = true ∧ meth.name = "<init>" ∧ (rr.2.1 b).1 = q.y.cls) := by
      by_cases h0 : c9 = 0
      · rw [if_pos h0] at hfin; exact Or.inl (of_decide_eq_true hfin)
      · rw [if_neg h0] at hfin
        simp only [Bool.and_eq_true, decide_eq_true_eq] at hfin
        exact Or.inr ⟨hfin.1.1, hini hfin.1.2, hfin.2⟩
    exact zs_putfield hx hb hK hts hown hc (by rw [hN]; exact hbN) (hwb _ (by simp [zneed, hc])) hfin' hdec h k
  | newarray t =>
    obtain rfl : len = 2 := hlen (by simp [zlen])
    have h' := h
    change znwa pc ls st f m (ztag t) = some (.inl r) at h'
    refine zs_newarray hx hb hK (hwb _ (by simp [zneed])) ?_ ?_ hdec h' k
    · unfold znwa znx at h'
      repeat' split at h'
      all_goals first | (cases h'; exact hRc) | cases h'
    · intro x r0 hst
      subst hst
      obtain ⟨mo, k9, n9⟩ := m
      cases mo with
      | none => cases h'
      | some q9 =>
        unfold znwa znx at h'
        dsimp only at h'
        repeat' split at h'
        all_goals first | (cases h'; exact hRs) | cases h'
  | anewarray k1 =>
    obtain rfl : len = 3 := hlen (by simp [zlen])
    have h' := h
    change znqa pc ls st f m = some (.inl r) at h'
    refine zs_anewarray hx hb hK hown (hwb _ (by simp [zneed])) ?_ ?_ hdec h' k
    · unfold znqa znx at h'
      repeat' split at h'
      all_goals first | (cases h'; exact hRc) | cases h'
    · intro x r0 hst
      subst hst
      obtain ⟨mo, k9, n9⟩ := m
      cases mo with
      | none => cases h'
      | some q9 =>
        unfold znqa znx at h'
        dsimp only at h'
        repeat' split at h'
        all_goals first | (cases h'; exact hRs) | cases h'
  | multianewarray k1 k2 =>
    obtain rfl : len = 4 := hlen (by simp [zlen])
    simp only [zstat, Bool.and_eq_true, decide_eq_true_eq] at hstat
    obtain ⟨rfl, ha⟩ := hstat
    have h' := h
    change znma pc ls st f m a = some (.inl r) at h'
    refine zs_multianewarray hx hb hK hown (hwb _ (by simp [zneed])) (hwb _ (by simp [zneed])) ?_ ?_ hdec h' k
    · intro y x r0 hst
      subst hst
      unfold znma znx at h'
      repeat' split at h'
      all_goals first | (injections; subst_vars; cases h'; exact hRc) | cases h'
    · intro y x r0 hst
      subst hst
      unfold znma znx at h'
      repeat' split at h'
      all_goals first | (cases h'; exact hRs) | (injections; subst_vars; cases h'; exact hRs) | cases h'
  | new k1 =>
    obtain rfl : len = 3 := hlen (by simp [zlen])
    unfold zstp at h
    dsimp only at h
    by_cases h0 : b = 0
    · subst h0
      rw [if_pos rfl] at h
      simp only [zstat, if_true, decide_eq_true_eq] at hstat
      obtain ⟨rr, hc⟩ := zvw hstat
      have hN := (zcl_ok a rr hc).2.2.2
      refine zs_new hx hb hK hts hown hc (hwb _ (by simp [zneed, hc])) (hwb _ (by simp [zneed, hc])) (hwb _ (by simp [zneed, hc])) ?_ ?_ hdec h k
      · unfold znew znx at h
        repeat' split at h
        all_goals first | (cases h; exact hRc) | cases h
      · unfold znew znx at h
        repeat' split at h
        all_goals first | (cases h; exact hRs) | cases h
    · rw [if_neg h0] at h
      split at h
      · cases h
      · cases h
  | invokevirtual k1 =>
    obtain rfl : len = 3 := hlen (by simp [zlen])
    unfold zstp at h
    dsimp only at h
    split at h
    · rename_i hrc
      simp only [zstat] at hstat
      unfold zinv znx at h
      by_cases hbs : b ≤ st.length ∧ zsz (st.drop b) ≤ 8
      · rw [if_pos hbs] at h
        cases hr : zrun zTb d a (st.take b).reverse f m with
        | none => rw [hr] at h; cases h
        | some x =>
          obtain ⟨o, f', m'⟩ := x
          rw [hr] at h
          obtain ⟨qa, hqa, hC⟩ := IH _ _ _ _ _ _ _ hr
          rw [hqa] at hstat
          simp only [Bool.and_eq_true, decide_eq_true_eq] at hstat
          have hmem := hin
          simp only [zneed, hqa] at hmem
          have hRc' : m'.2.1 ≤ K0 + R.cells := by
            cases o with
            | inl v => cases h; exact hRc
            | inr E =>
              dsimp only at h
              split at h
              · cases h; exact hRc
              · cases h
          have hRs' : m'.2.2 ≤ S0 + R.slots := by
            cases o with
            | inl v => cases h; exact hRs
            | inr E =>
              dsimp only at h
              split at h
              · cases h; exact hRs
              · cases h
          obtain ⟨p0, ci, fs, hlast, hp0, rfl⟩ : ∃ p0 ci fs, (st.take b).getLast? = some (.ref p0) ∧ f p0 = some (.inr (ci, fs)) ∧ ci = c9 := by
            unfold zrc at hrc
            split at hrc
            · rename_i p0 hl0
              split at hrc
              · rename_i ci fs hf0
                exact ⟨p0, ci, fs, hl0, hf0, by simpa using hrc⟩
              · cases hrc
            · cases hrc
          obtain ⟨⟨⟨⟨⟨hb1, hnar⟩, hci⟩, hh0⟩, hn21⟩, hmh⟩ := hstat
          refine zs_callV (qa := qa) (o := o) hx hb hml hts hown hK hX hdec hbs.1 hb1 hbs.2 hlast hp0 hci (hmem _ (by simp)) (hmem _ (by simp)) (hmem _ (by simp)) (hmem _ (by simp)) (hmem _ (by simp)) hh0 hn21 hnar hmh hC ⟨hR1, hR2⟩ hRc' hRs' ?_ ?_
          · intro v hv
            subst hv
            cases h
            exact k
          · intro E hE h3 H1 locs1 LS ce q9 hl g1 g2 hh hs hce hcv hcl
            subst hE
            dsimp only at h
            have hcat := zs_catch (l := l) (e := e) (R := R) (below := below) (meth := meth) (Q := Q) (K0 := K0) (S0 := S0) (nL := q.n) (ls := ls) (rest := (st.drop b).map (zcv Z)) (f' := f') (m' := m') hx hb hts hown hK hwl (pc := pc) h3 q.h q.x [] hhok (by rw [htab]; rfl) (fun z hz => by cases hz)
            split at h
            · rename_i t k9 ht
              cases h
              exact hcat.1 t k9 ht k H1 locs1 LS ce q9 hl g1 g2 hh hs hce hcv hcl
            · cases h
      · rw [if_neg hbs] at h; cases h
    · cases h
  | invokestatic k1 =>
    obtain rfl : len = 3 := hlen (by simp [zlen])
    simp only [zstat] at hstat
    change zinv (zrun zTb d) q.x pc 3 ls st f m a b = some (.inl r) at h
    unfold zinv znx at h
    by_cases hbs : b ≤ st.length ∧ zsz (st.drop b) ≤ 8
    · rw [if_pos hbs] at h
      cases hr : zrun zTb d a (st.take b).reverse f m with
      | none => rw [hr] at h; cases h
      | some x =>
        obtain ⟨o, f', m'⟩ := x
        rw [hr] at h
        obtain ⟨qa, hqa, hC⟩ := IH _ _ _ _ _ _ _ hr
        rw [hqa] at hstat
        simp only [Bool.and_eq_true, decide_eq_true_eq] at hstat
        have hmem := hin
        simp only [zneed, hqa] at hmem
        have hRc' : m'.2.1 ≤ K0 + R.cells := by
          cases o with
          | inl v => cases h; exact hRc
          | inr E =>
            dsimp only at h
            split at h
            · cases h; exact hRc
            · cases h
        have hRs' : m'.2.2 ≤ S0 + R.slots := by
          cases o with
          | inl v => cases h; exact hRs
          | inr E =>
            dsimp only at h
            split at h
            · cases h; exact hRs
            · cases h
        obtain ⟨⟨hnar, hn21⟩, hmh⟩ := hstat
        refine zs_callS (qa := qa) (o := o) hx hb hml hts hown hK hX hdec hbs.1 hbs.2 (hmem _ (by simp)) (hmem _ (by simp)) (hmem _ (by simp)) (hmem _ (by simp)) hn21 hnar hmh hC ⟨hR1, hR2⟩ hRc' hRs' ?_ ?_
        · intro v hv
          subst hv
          cases h
          exact k
        · intro E hE h3 H1 locs1 LS ce q9 hl g1 g2 hh hs hce hcv hcl
          subst hE
          dsimp only at h
          have hcat := zs_catch (l := l) (e := e) (R := R) (below := below) (meth := meth) (Q := Q) (K0 := K0) (S0 := S0) (nL := q.n) (ls := ls) (rest := (st.drop b).map (zcv Z)) (f' := f') (m' := m') hx hb hts hown hK hwl (pc := pc) h3 q.h q.x [] hhok (by rw [htab]; rfl) (fun z hz => by cases hz)
          split at h
          · rename_i t k9 ht
            cases h
            exact hcat.1 t k9 ht k H1 locs1 LS ce q9 hl g1 g2 hh hs hce hcv hcl
          · cases h
    · rw [if_neg hbs] at h; cases h
  | invokespecial k1 =>
    obtain rfl : len = 3 := hlen (by simp [zlen])
    unfold zstp at h
    dsimp only at h
    by_cases h0 : b = 0
    · rw [if_pos h0] at h
      split at h
      · rename_i p0 r0
        by_cases h4 : zsz r0 ≤ 8
        · rw [if_pos h4] at h
          cases h
          subst h0
          intro H locs LS hl hh hs g1 g2
          refine W.objInit hx hb hown (hwb _ (by simp [zneed])) (hwb _ (by simp [zneed])) (hwb _ (by simp [zneed])) rfl (by rw [hml]; exact hl.2.1) rfl hdec (by omega) ?_ (k H locs LS hl hh hs g1 g2)
          have := lv_room (pc := pc) (ls := LS) (rest := []) (m := mm) (zcats (Z := Z) h4)
          have h9 : (F0 mm pc LS ((Value.ref p0 :: r0).map (zcv Z))).monitorRoom = (F0 mm pc LS []).monitorRoom := rfl
          rw [h9]
          omega
        · rw [if_neg h4] at h; cases h
      · cases h
    · rw [if_neg h0] at h
      split at h
      · rename_i p0 hlast
        unfold zinvI znx at h
        by_cases hbs : b ≤ st.length ∧ zsz (st.drop b) ≤ 8
        · rw [if_pos hbs] at h
          cases hr : zrun zTb d a (st.take b).reverse f m with
          | none => rw [hr] at h; cases h
          | some x =>
            obtain ⟨o, f', m'⟩ := x
            rw [hr] at h
            cases o with
            | inr E => cases h
            | inl v =>
              cases h
              obtain ⟨qa, hqa, hC⟩ := IH _ _ _ _ _ _ _ hr
              simp only [zstat] at hstat
              rw [hqa] at hstat
              simp only [Bool.or_eq_true, Bool.and_eq_true, decide_eq_true_eq] at hstat
              have hmem := hin
              simp only [zneed, hqa, if_neg h0] at hmem
              obtain ⟨⟨⟨⟨⟨⟨⟨hb1, hnar⟩, hname⟩, hh0⟩, hr0⟩, hn21⟩, hmh⟩, hlk⟩ := hstat.resolve_left h0
              have hlink : Cond.methodLink q.y.cls k1 qa.y ∈ zTs ∨ (q.y.cls, k1, qa.y) ∈ zNests := by
                rcases hlk with hlk | hlk
                · exact Or.inl (hmem _ (by simp [hlk]))
                · exact Or.inr hlk
              exact zs_callI (qa := qa) hx hb hml hts hown hK hX hdec hbs.1 hb1 hbs.2 hlast hlink (hmem _ (by simp)) (hmem _ (by simp)) (hmem _ (by simp)) hh0 hr0 hname hn21 hnar hmh hC ⟨hR1, hR2⟩ hRc hRs k
        · rw [if_neg hbs] at h; cases h
      · cases h
  | ireturn =>
    unfold zstp at h
    dsimp only at h
    repeat' split at h
    all_goals cases h
  | lreturn =>
    unfold zstp at h
    dsimp only at h
    repeat' split at h
    all_goals cases h
  | dreturn =>
    unfold zstp at h
    dsimp only at h
    repeat' split at h
    all_goals cases h
  | areturn =>
    unfold zstp at h
    dsimp only at h
    repeat' split at h
    all_goals cases h
  | return_ =>
    unfold zstp at h
    dsimp only at h
    repeat' split at h
    all_goals cases h
  | _ => cases h
end ZS
