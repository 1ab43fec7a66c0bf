/-! SOUNDNESS, step by step: an instruction a theorem -/
section ZS
variable {p : Program} {l : Launch} {e : Env} {R : Room} {s : State} {mm : MethodId} {args : Array Value} {below : List Frame} {meth : Method} {c : Code} {Q : State → Prop} {Z : zZ} {nL K0 S0 : Nat} {cc : ByteArray}
def zG (p : Program) (l : Launch) (e : Env) (R : Room) (s : State) (mm : MethodId) (args : Array Value) (below : List Frame) (meth : Method) (c : Code) (Q : State → Prop) (Z : zZ) (nL K0 S0 : Nat) (pc : Nat) (ls st : List Value) (f : zF) (m : zM) : Prop :=
  ∀ (H : Heap) (locs : List Loc) (LS : Array Slot), zL Z nL ls LS → zHR Z f m H → va_S (zA Z) s.heap H locs → K0 ≤ m.2.1 → S0 ≤ m.2.2 → W p l e R s mm args below meth c H locs (m.2.1 - K0) (m.2.2 - S0) Q (F0 mm pc LS (st.map (zcv Z)))
def zKt (p : Program) (l : Launch) (e : Env) (R : Room) (s : State) (mm : MethodId) (args : Array Value) (below : List Frame) (meth : Method) (c : Code) (Q : State → Prop) (Z : zZ) (nL K0 S0 : Nat) : zT → Prop
  | .inl x => zG p l e R s mm args below meth c Q Z nL K0 S0 x.1 x.2.1 x.2.2.1 x.2.2.2.1 x.2.2.2.2
  | .inr _ => False

theorem zs_iconst (hx : p.tables.exec = Jvm.exec) (hb : c.code = cc) {pc : Nat} {ls st : List Value} {f : zF} {m : zM} {r : zT} {n : Int}  (hd : decode cc pc = .ok (.iconst n, 1)) (h : znx pc 1 ls (.int (Int32.ofInt n) :: st) f m = some r) (k : zKt p l e R s mm args below meth c Q Z nL K0 S0 r) : zG p l e R s mm args below meth c Q Z nL K0 S0 pc ls st f m := by
  cases h
  intro H locs LS hl hh hs h1 h2
  exact lv_iconst hx hb hd rfl (k H locs LS hl hh hs h1 h2)

theorem zs_bipush (hx : p.tables.exec = Jvm.exec) (hb : c.code = cc) {pc : Nat} {ls st : List Value} {f : zF} {m : zM} {r : zT} {n : Int}  (hd : decode cc pc = .ok (.bipush n, 2)) (h : znx pc 2 ls (.int (Int8.ofInt n).toInt32 :: st) f m = some r) (k : zKt p l e R s mm args below meth c Q Z nL K0 S0 r) : zG p l e R s mm args below meth c Q Z nL K0 S0 pc ls st f m := by
  cases h
  intro H locs LS hl hh hs h1 h2
  exact lv_bipush hx hb hd rfl (k H locs LS hl hh hs h1 h2)

theorem zs_sipush (hx : p.tables.exec = Jvm.exec) (hb : c.code = cc) {pc : Nat} {ls st : List Value} {f : zF} {m : zM} {r : zT} {n : Int}  (hd : decode cc pc = .ok (.sipush n, 3)) (h : znx pc 3 ls (.int (Int16.ofInt n).toInt32 :: st) f m = some r) (k : zKt p l e R s mm args below meth c Q Z nL K0 S0 r) : zG p l e R s mm args below meth c Q Z nL K0 S0 pc ls st f m := by
  cases h
  intro H locs LS hl hh hs h1 h2
  exact lv_sipush hx hb hd rfl (k H locs LS hl hh hs h1 h2)

theorem zs_lconst (hx : p.tables.exec = Jvm.exec) (hb : c.code = cc) {pc : Nat} {ls st : List Value} {f : zF} {m : zM} {r : zT} {n : Fin 2}  (hd : decode cc pc = .ok (.lconst n, 1)) (h : znx pc 1 ls (.long (Int64.ofNat (n : Nat)) :: st) f m = some r) (k : zKt p l e R s mm args below meth c Q Z nL K0 S0 r) : zG p l e R s mm args below meth c Q Z nL K0 S0 pc ls st f m := by
  cases h
  intro H locs LS hl hh hs h1 h2
  exact lv_lconst hx hb hd rfl (k H locs LS hl hh hs h1 h2)

theorem zs_dconst (hx : p.tables.exec = Jvm.exec) (hb : c.code = cc) {pc : Nat} {ls st : List Value} {f : zF} {m : zM} {r : zT}   (hd : decode cc pc = .ok (.dconst 0, 1)) (h : znx pc 1 ls (.double FP.dconst0 :: st) f m = some r) (k : zKt p l e R s mm args below meth c Q Z nL K0 S0 r) : zG p l e R s mm args below meth c Q Z nL K0 S0 pc ls st f m := by
  cases h
  intro H locs LS hl hh hs h1 h2
  exact lv_dconst0 hx hb hd (k H locs LS hl hh hs h1 h2)

theorem zs_ldc2 (hx : p.tables.exec = Jvm.exec) (hb : c.code = cc) {pc : Nat} {ls st : List Value} {f : zF} {m : zM} {r : zT} {idx : Nat} {v : Int64} {own : String} (hown : s.vm.findClass own = some mm.cls) (hw : (Jvm.Cond.constantLong own idx v).before args s = true) (hd : decode cc pc = .ok (.ldc2_w idx, 3)) (h : znx pc 3 ls (.long v :: st) f m = some r) (k : zKt p l e R s mm args below meth c Q Z nL K0 S0 r) : zG p l e R s mm args below meth c Q Z nL K0 S0 pc ls st f m := by
  cases h
  intro H locs LS hl hh hs h1 h2
  exact lv_ldc2 hx hb hown hw hd (k H locs LS hl hh hs h1 h2)

theorem zs_iload_n (hx : p.tables.exec = Jvm.exec) (hb : c.code = cc) {pc : Nat} {ls st : List Value} {f : zF} {m : zM} {r : zT} {i : Fin 4}  (hd : decode cc pc = .ok (.iload_n i, 1)) (h : zldi pc 1 ls st f m i = some r) (k : zKt p l e R s mm args below meth c Q Z nL K0 S0 r) : zG p l e R s mm args below meth c Q Z nL K0 S0 pc ls st f m := by
  unfold zldi at h
  split at h
  · rename_i x hg
    cases h
    intro H locs LS hl hh hs h1 h2
    exact lv_iload_n hx hb hd rfl (hl.at hg (by simp)) (k H locs LS hl hh hs h1 h2)
  · cases h

theorem zs_iload (hx : p.tables.exec = Jvm.exec) (hb : c.code = cc) {pc : Nat} {ls st : List Value} {f : zF} {m : zM} {r : zT} {i : Nat}  (hd : decode cc pc = .ok (.iload i, 2)) (h : zldi pc 2 ls st f m i = some r) (k : zKt p l e R s mm args below meth c Q Z nL K0 S0 r) : zG p l e R s mm args below meth c Q Z nL K0 S0 pc ls st f m := by
  unfold zldi at h
  split at h
  · rename_i x hg
    cases h
    intro H locs LS hl hh hs h1 h2
    exact lv_iload hx hb hd (hl.at hg (by simp)) (k H locs LS hl hh hs h1 h2)
  · cases h

theorem zs_lload_n (hx : p.tables.exec = Jvm.exec) (hb : c.code = cc) {pc : Nat} {ls st : List Value} {f : zF} {m : zM} {r : zT} {i : Fin 4}  (hd : decode cc pc = .ok (.lload_n i, 1)) (h : zldl pc 1 ls st f m i = some r) (k : zKt p l e R s mm args below meth c Q Z nL K0 S0 r) : zG p l e R s mm args below meth c Q Z nL K0 S0 pc ls st f m := by
  unfold zldl at h
  split at h
  · rename_i x hg
    cases h
    intro H locs LS hl hh hs h1 h2
    exact lv_lload_n hx hb hd rfl (hl.at hg (by simp)) (k H locs LS hl hh hs h1 h2)
  · cases h

theorem zs_lload (hx : p.tables.exec = Jvm.exec) (hb : c.code = cc) {pc : Nat} {ls st : List Value} {f : zF} {m : zM} {r : zT} {i : Nat}  (hd : decode cc pc = .ok (.lload i, 2)) (h : zldl pc 2 ls st f m i = some r) (k : zKt p l e R s mm args below meth c Q Z nL K0 S0 r) : zG p l e R s mm args below meth c Q Z nL K0 S0 pc ls st f m := by
  unfold zldl at h
  split at h
  · rename_i x hg
    cases h
    intro H locs LS hl hh hs h1 h2
    exact lv_lload hx hb hd (hl.at hg (by simp)) (k H locs LS hl hh hs h1 h2)
  · cases h

theorem zs_dload_n (hx : p.tables.exec = Jvm.exec) (hb : c.code = cc) {pc : Nat} {ls st : List Value} {f : zF} {m : zM} {r : zT} {i : Fin 4}  (hd : decode cc pc = .ok (.dload_n i, 1)) (h : zldd pc 1 ls st f m i = some r) (k : zKt p l e R s mm args below meth c Q Z nL K0 S0 r) : zG p l e R s mm args below meth c Q Z nL K0 S0 pc ls st f m := by
  unfold zldd at h
  split at h
  · rename_i x hg
    cases h
    intro H locs LS hl hh hs h1 h2
    exact lv_dload_n hx hb hd rfl (hl.at hg (by simp)) (k H locs LS hl hh hs h1 h2)
  · cases h

theorem zs_dload (hx : p.tables.exec = Jvm.exec) (hb : c.code = cc) {pc : Nat} {ls st : List Value} {f : zF} {m : zM} {r : zT} {i : Nat}  (hd : decode cc pc = .ok (.dload i, 2)) (h : zldd pc 2 ls st f m i = some r) (k : zKt p l e R s mm args below meth c Q Z nL K0 S0 r) : zG p l e R s mm args below meth c Q Z nL K0 S0 pc ls st f m := by
  unfold zldd at h
  split at h
  · rename_i x hg
    cases h
    intro H locs LS hl hh hs h1 h2
    exact lv_dload hx hb hd (hl.at hg (by simp)) (k H locs LS hl hh hs h1 h2)
  · cases h

theorem zs_aload_n (hx : p.tables.exec = Jvm.exec) (hb : c.code = cc) {pc : Nat} {ls st : List Value} {f : zF} {m : zM} {r : zT} {i : Fin 4}  (hd : decode cc pc = .ok (.aload_n i, 1)) (h : zlda pc 1 ls st f m i = some r) (k : zKt p l e R s mm args below meth c Q Z nL K0 S0 r) : zG p l e R s mm args below meth c Q Z nL K0 S0 pc ls st f m := by
  unfold zlda at h
  split at h
  · rename_i x hg
    cases h
    intro H locs LS hl hh hs h1 h2
    exact lv_aload_n hx hb hd rfl (hl.at hg (by simp)) (k H locs LS hl hh hs h1 h2)
  · cases h

theorem zs_aload (hx : p.tables.exec = Jvm.exec) (hb : c.code = cc) {pc : Nat} {ls st : List Value} {f : zF} {m : zM} {r : zT} {i : Nat}  (hd : decode cc pc = .ok (.aload i, 2)) (h : zlda pc 2 ls st f m i = some r) (k : zKt p l e R s mm args below meth c Q Z nL K0 S0 r) : zG p l e R s mm args below meth c Q Z nL K0 S0 pc ls st f m := by
  unfold zlda at h
  split at h
  · rename_i x hg
    cases h
    intro H locs LS hl hh hs h1 h2
    exact lv_aload hx hb hd (hl.at hg (by simp)) (k H locs LS hl hh hs h1 h2)
  · cases h

theorem zs_istore_n (hx : p.tables.exec = Jvm.exec) (hb : c.code = cc) {pc : Nat} {ls st : List Value} {f : zF} {m : zM} {r : zT} {i : Fin 4}  (hd : decode cc pc = .ok (.istore_n i, 1)) (h : zsti pc 1 ls st f m i = some r) (k : zKt p l e R s mm args below meth c Q Z nL K0 S0 r) : zG p l e R s mm args below meth c Q Z nL K0 S0 pc ls st f m := by
  unfold zsti at h
  split at h
  · rename_i x r0
    by_cases hi : (i : Nat)  < ls.length
    · rw [if_pos hi] at h
      cases h
      intro H locs LS hl hh hs h1 h2
      have hi2 : (i : Nat)  < nL := by have := hl.1; omega
      exact lv_istore_n (lv := zalo Z ls) hx hb hd rfl hl.has hi2 rfl (fun LS1 hl1 => k H locs LS1 (zL.set1 hl.1 hi2 (fun _ => rfl) hl1) hh hs h1 h2)
    · rw [if_neg hi] at h; cases h
  · cases h

theorem zs_istore (hx : p.tables.exec = Jvm.exec) (hb : c.code = cc) {pc : Nat} {ls st : List Value} {f : zF} {m : zM} {r : zT} {i : Nat}  (hd : decode cc pc = .ok (.istore i, 2)) (h : zsti pc 2 ls st f m i = some r) (k : zKt p l e R s mm args below meth c Q Z nL K0 S0 r) : zG p l e R s mm args below meth c Q Z nL K0 S0 pc ls st f m := by
  unfold zsti at h
  split at h
  · rename_i x r0
    by_cases hi : (i : Nat)  < ls.length
    · rw [if_pos hi] at h
      cases h
      intro H locs LS hl hh hs h1 h2
      have hi2 : (i : Nat)  < nL := by have := hl.1; omega
      exact lv_istore (lv := zalo Z ls) hx hb hd hl.has hi2 rfl (fun LS1 hl1 => k H locs LS1 (zL.set1 hl.1 hi2 (fun _ => rfl) hl1) hh hs h1 h2)
    · rw [if_neg hi] at h; cases h
  · cases h

theorem zs_astore_n (hx : p.tables.exec = Jvm.exec) (hb : c.code = cc) {pc : Nat} {ls st : List Value} {f : zF} {m : zM} {r : zT} {i : Fin 4}  (hd : decode cc pc = .ok (.astore_n i, 1)) (h : zsta pc 1 ls st f m i = some r) (k : zKt p l e R s mm args below meth c Q Z nL K0 S0 r) : zG p l e R s mm args below meth c Q Z nL K0 S0 pc ls st f m := by
  unfold zsta at h
  split at h
  · rename_i x r0
    by_cases hi : (i : Nat)  < ls.length
    · rw [if_pos hi] at h
      cases h
      intro H locs LS hl hh hs h1 h2
      have hi2 : (i : Nat)  < nL := by have := hl.1; omega
      exact lv_astore_n (lv := zalo Z ls) hx hb hd rfl hl.has hi2 rfl (fun LS1 hl1 => k H locs LS1 (zL.set1 hl.1 hi2 (fun _ => rfl) hl1) hh hs h1 h2)
    · rw [if_neg hi] at h; cases h
  · cases h

theorem zs_astore (hx : p.tables.exec = Jvm.exec) (hb : c.code = cc) {pc : Nat} {ls st : List Value} {f : zF} {m : zM} {r : zT} {i : Nat}  (hd : decode cc pc = .ok (.astore i, 2)) (h : zsta pc 2 ls st f m i = some r) (k : zKt p l e R s mm args below meth c Q Z nL K0 S0 r) : zG p l e R s mm args below meth c Q Z nL K0 S0 pc ls st f m := by
  unfold zsta at h
  split at h
  · rename_i x r0
    by_cases hi : (i : Nat)  < ls.length
    · rw [if_pos hi] at h
      cases h
      intro H locs LS hl hh hs h1 h2
      have hi2 : (i : Nat)  < nL := by have := hl.1; omega
      exact lv_astore (lv := zalo Z ls) hx hb hd hl.has hi2 rfl (fun LS1 hl1 => k H locs LS1 (zL.set1 hl.1 hi2 (fun _ => rfl) hl1) hh hs h1 h2)
    · rw [if_neg hi] at h; cases h
  · cases h

theorem zs_lstore_n (hx : p.tables.exec = Jvm.exec) (hb : c.code = cc) {pc : Nat} {ls st : List Value} {f : zF} {m : zM} {r : zT} {i : Fin 4}  (hd : decode cc pc = .ok (.lstore_n i, 1)) (h : zstl pc 1 ls st f m i = some r) (k : zKt p l e R s mm args below meth c Q Z nL K0 S0 r) : zG p l e R s mm args below meth c Q Z nL K0 S0 pc ls st f m := by
  unfold zstl at h
  split at h
  · rename_i x r0
    by_cases hi : (i : Nat) + 1 < ls.length
    · rw [if_pos hi] at h
      cases h
      intro H locs LS hl hh hs h1 h2
      have hi2 : (i : Nat) + 1 < nL := by have := hl.1; omega
      exact lv_lstore_n (lv := zalo Z ls) hx hb hd rfl hl.has hi2 rfl (fun LS1 hl1 => k H locs LS1 (zL.set2 hl.1 hi2 rfl hl1) hh hs h1 h2)
    · rw [if_neg hi] at h; cases h
  · cases h

theorem zs_lstore (hx : p.tables.exec = Jvm.exec) (hb : c.code = cc) {pc : Nat} {ls st : List Value} {f : zF} {m : zM} {r : zT} {i : Nat}  (hd : decode cc pc = .ok (.lstore i, 2)) (h : zstl pc 2 ls st f m i = some r) (k : zKt p l e R s mm args below meth c Q Z nL K0 S0 r) : zG p l e R s mm args below meth c Q Z nL K0 S0 pc ls st f m := by
  unfold zstl at h
  split at h
  · rename_i x r0
    by_cases hi : (i : Nat) + 1 < ls.length
    · rw [if_pos hi] at h
      cases h
      intro H locs LS hl hh hs h1 h2
      have hi2 : (i : Nat) + 1 < nL := by have := hl.1; omega
      exact lv_lstore (lv := zalo Z ls) hx hb hd hl.has hi2 rfl (fun LS1 hl1 => k H locs LS1 (zL.set2 hl.1 hi2 rfl hl1) hh hs h1 h2)
    · rw [if_neg hi] at h; cases h
  · cases h

theorem zs_dstore_n (hx : p.tables.exec = Jvm.exec) (hb : c.code = cc) {pc : Nat} {ls st : List Value} {f : zF} {m : zM} {r : zT} {i : Fin 4}  (hd : decode cc pc = .ok (.dstore_n i, 1)) (h : zstd pc 1 ls st f m i = some r) (k : zKt p l e R s mm args below meth c Q Z nL K0 S0 r) : zG p l e R s mm args below meth c Q Z nL K0 S0 pc ls st f m := by
  unfold zstd at h
  split at h
  · rename_i x r0
    by_cases hi : (i : Nat) + 1 < ls.length
    · rw [if_pos hi] at h
      cases h
      intro H locs LS hl hh hs h1 h2
      have hi2 : (i : Nat) + 1 < nL := by have := hl.1; omega
      exact lv_dstore_n (lv := zalo Z ls) hx hb hd rfl hl.has hi2 rfl (fun LS1 hl1 => k H locs LS1 (zL.set2 hl.1 hi2 rfl hl1) hh hs h1 h2)
    · rw [if_neg hi] at h; cases h
  · cases h

theorem zs_dstore (hx : p.tables.exec = Jvm.exec) (hb : c.code = cc) {pc : Nat} {ls st : List Value} {f : zF} {m : zM} {r : zT} {i : Nat}  (hd : decode cc pc = .ok (.dstore i, 2)) (h : zstd pc 2 ls st f m i = some r) (k : zKt p l e R s mm args below meth c Q Z nL K0 S0 r) : zG p l e R s mm args below meth c Q Z nL K0 S0 pc ls st f m := by
  unfold zstd at h
  split at h
  · rename_i x r0
    by_cases hi : (i : Nat) + 1 < ls.length
    · rw [if_pos hi] at h
      cases h
      intro H locs LS hl hh hs h1 h2
      have hi2 : (i : Nat) + 1 < nL := by have := hl.1; omega
      exact lv_dstore (lv := zalo Z ls) hx hb hd hl.has hi2 rfl (fun LS1 hl1 => k H locs LS1 (zL.set2 hl.1 hi2 rfl hl1) hh hs h1 h2)
    · rw [if_neg hi] at h; cases h
  · cases h

theorem zs_iinc (hx : p.tables.exec = Jvm.exec) (hb : c.code = cc) {pc : Nat} {ls st : List Value} {f : zF} {m : zM} {i : Nat} {n : Int} {x : Int32} (hd : decode cc pc = .ok (.iinc i n, 3)) (hg : ls.getD i .null = .int x) (k : zKt p l e R s mm args below meth c Q Z nL K0 S0 (.inl (pc + 3, zset ls i (.int (x + Int32.ofInt n)), st, f, m))) : zG p l e R s mm args below meth c Q Z nL K0 S0 pc ls st f m := by
  intro H locs LS hl hh hs h1 h2
  have hi : i < ls.length := (List.getElem?_eq_some_iff.mp (getD_some hg (by simp))).1
  have hi2 : i < nL := by have := hl.1; omega
  have hm : (i, Value.int x) ∈ zalo Z ls := zalo_mem.mpr ⟨hi, by rw [hg]; simp, by rw [hg]; rfl⟩
  obtain ⟨k0, hk0⟩ := List.getElem?_of_mem hm
  exact lv_iinc (lv := zalo Z ls) hx hb hd hl.has hk0 rfl hi2 rfl (fun LS1 hl1 => k H locs LS1 (zL.set1 hl.1 hi2 (fun _ => rfl) hl1) hh hs h1 h2)

theorem zs_iadd (hx : p.tables.exec = Jvm.exec) (hb : c.code = cc) {pc : Nat} {ls st : List Value} {f : zF} {m : zM} {r : zT}   (hd : decode cc pc = .ok (.iadd, 1)) (h : zi2 pc ls st f m (fun x y => x + y) = some r) (k : zKt p l e R s mm args below meth c Q Z nL K0 S0 r) : zG p l e R s mm args below meth c Q Z nL K0 S0 pc ls st f m := by
  unfold zi2 at h
  split at h
  · cases h
    intro H locs LS hl hh hs h1 h2
    exact lv_iadd hx hb hd (k H locs LS hl hh hs h1 h2)
  · cases h

theorem zs_isub (hx : p.tables.exec = Jvm.exec) (hb : c.code = cc) {pc : Nat} {ls st : List Value} {f : zF} {m : zM} {r : zT}   (hd : decode cc pc = .ok (.isub, 1)) (h : zi2 pc ls st f m (fun x y => x - y) = some r) (k : zKt p l e R s mm args below meth c Q Z nL K0 S0 r) : zG p l e R s mm args below meth c Q Z nL K0 S0 pc ls st f m := by
  unfold zi2 at h
  split at h
  · cases h
    intro H locs LS hl hh hs h1 h2
    exact lv_isub hx hb hd (k H locs LS hl hh hs h1 h2)
  · cases h

theorem zs_imul (hx : p.tables.exec = Jvm.exec) (hb : c.code = cc) {pc : Nat} {ls st : List Value} {f : zF} {m : zM} {r : zT}   (hd : decode cc pc = .ok (.imul, 1)) (h : zi2 pc ls st f m (fun x y => x * y) = some r) (k : zKt p l e R s mm args below meth c Q Z nL K0 S0 r) : zG p l e R s mm args below meth c Q Z nL K0 S0 pc ls st f m := by
  unfold zi2 at h
  split at h
  · cases h
    intro H locs LS hl hh hs h1 h2
    exact lv_imul hx hb hd (k H locs LS hl hh hs h1 h2)
  · cases h

theorem zs_iand (hx : p.tables.exec = Jvm.exec) (hb : c.code = cc) {pc : Nat} {ls st : List Value} {f : zF} {m : zM} {r : zT}   (hd : decode cc pc = .ok (.iand, 1)) (h : zi2 pc ls st f m (fun x y => x &&& y) = some r) (k : zKt p l e R s mm args below meth c Q Z nL K0 S0 r) : zG p l e R s mm args below meth c Q Z nL K0 S0 pc ls st f m := by
  unfold zi2 at h
  split at h
  · cases h
    intro H locs LS hl hh hs h1 h2
    exact lv_iand hx hb hd (k H locs LS hl hh hs h1 h2)
  · cases h

theorem zs_ior (hx : p.tables.exec = Jvm.exec) (hb : c.code = cc) {pc : Nat} {ls st : List Value} {f : zF} {m : zM} {r : zT}   (hd : decode cc pc = .ok (.ior, 1)) (h : zi2 pc ls st f m (fun x y => x ||| y) = some r) (k : zKt p l e R s mm args below meth c Q Z nL K0 S0 r) : zG p l e R s mm args below meth c Q Z nL K0 S0 pc ls st f m := by
  unfold zi2 at h
  split at h
  · cases h
    intro H locs LS hl hh hs h1 h2
    exact lv_ior hx hb hd (k H locs LS hl hh hs h1 h2)
  · cases h

theorem zs_ixor (hx : p.tables.exec = Jvm.exec) (hb : c.code = cc) {pc : Nat} {ls st : List Value} {f : zF} {m : zM} {r : zT}   (hd : decode cc pc = .ok (.ixor, 1)) (h : zi2 pc ls st f m (fun x y => x ^^^ y) = some r) (k : zKt p l e R s mm args below meth c Q Z nL K0 S0 r) : zG p l e R s mm args below meth c Q Z nL K0 S0 pc ls st f m := by
  unfold zi2 at h
  split at h
  · cases h
    intro H locs LS hl hh hs h1 h2
    exact lv_ixor hx hb hd (k H locs LS hl hh hs h1 h2)
  · cases h

theorem zs_ishl (hx : p.tables.exec = Jvm.exec) (hb : c.code = cc) {pc : Nat} {ls st : List Value} {f : zF} {m : zM} {r : zT}   (hd : decode cc pc = .ok (.ishl, 1)) (h : zi2 pc ls st f m (fun x y => x <<< (y &&& 31)) = some r) (k : zKt p l e R s mm args below meth c Q Z nL K0 S0 r) : zG p l e R s mm args below meth c Q Z nL K0 S0 pc ls st f m := by
  unfold zi2 at h
  split at h
  · cases h
    intro H locs LS hl hh hs h1 h2
    exact lv_ishl hx hb hd (k H locs LS hl hh hs h1 h2)
  · cases h

theorem zs_ishr (hx : p.tables.exec = Jvm.exec) (hb : c.code = cc) {pc : Nat} {ls st : List Value} {f : zF} {m : zM} {r : zT}   (hd : decode cc pc = .ok (.ishr, 1)) (h : zi2 pc ls st f m (fun x y => x >>> (y &&& 31)) = some r) (k : zKt p l e R s mm args below meth c Q Z nL K0 S0 r) : zG p l e R s mm args below meth c Q Z nL K0 S0 pc ls st f m := by
  unfold zi2 at h
  split at h
  · cases h
    intro H locs LS hl hh hs h1 h2
    exact lv_ishr hx hb hd (k H locs LS hl hh hs h1 h2)
  · cases h

theorem zs_iushr (hx : p.tables.exec = Jvm.exec) (hb : c.code = cc) {pc : Nat} {ls st : List Value} {f : zF} {m : zM} {r : zT}   (hd : decode cc pc = .ok (.iushr, 1)) (h : zi2 pc ls st f m (fun x y => (x.toUInt32 >>> (y.toUInt32 &&& Int32.toUInt32 31)).toInt32) = some r) (k : zKt p l e R s mm args below meth c Q Z nL K0 S0 r) : zG p l e R s mm args below meth c Q Z nL K0 S0 pc ls st f m := by
  unfold zi2 at h
  split at h
  · cases h
    intro H locs LS hl hh hs h1 h2
    exact lv_iushr hx hb hd rfl (k H locs LS hl hh hs h1 h2)
  · cases h

theorem zs_ladd (hx : p.tables.exec = Jvm.exec) (hb : c.code = cc) {pc : Nat} {ls st : List Value} {f : zF} {m : zM} {r : zT}   (hd : decode cc pc = .ok (.ladd, 1)) (h : zl2 pc ls st f m (fun x y => x + y) = some r) (k : zKt p l e R s mm args below meth c Q Z nL K0 S0 r) : zG p l e R s mm args below meth c Q Z nL K0 S0 pc ls st f m := by
  unfold zl2 at h
  split at h
  · cases h
    intro H locs LS hl hh hs h1 h2
    exact lv_ladd hx hb hd (k H locs LS hl hh hs h1 h2)
  · cases h

theorem zs_lsub (hx : p.tables.exec = Jvm.exec) (hb : c.code = cc) {pc : Nat} {ls st : List Value} {f : zF} {m : zM} {r : zT}   (hd : decode cc pc = .ok (.lsub, 1)) (h : zl2 pc ls st f m (fun x y => x - y) = some r) (k : zKt p l e R s mm args below meth c Q Z nL K0 S0 r) : zG p l e R s mm args below meth c Q Z nL K0 S0 pc ls st f m := by
  unfold zl2 at h
  split at h
  · cases h
    intro H locs LS hl hh hs h1 h2
    exact lv_lsub hx hb hd (k H locs LS hl hh hs h1 h2)
  · cases h

theorem zs_lmul (hx : p.tables.exec = Jvm.exec) (hb : c.code = cc) {pc : Nat} {ls st : List Value} {f : zF} {m : zM} {r : zT}   (hd : decode cc pc = .ok (.lmul, 1)) (h : zl2 pc ls st f m (fun x y => x * y) = some r) (k : zKt p l e R s mm args below meth c Q Z nL K0 S0 r) : zG p l e R s mm args below meth c Q Z nL K0 S0 pc ls st f m := by
  unfold zl2 at h
  split at h
  · cases h
    intro H locs LS hl hh hs h1 h2
    exact lv_lmul hx hb hd (k H locs LS hl hh hs h1 h2)
  · cases h

theorem zs_land (hx : p.tables.exec = Jvm.exec) (hb : c.code = cc) {pc : Nat} {ls st : List Value} {f : zF} {m : zM} {r : zT}   (hd : decode cc pc = .ok (.land, 1)) (h : zl2 pc ls st f m (fun x y => x &&& y) = some r) (k : zKt p l e R s mm args below meth c Q Z nL K0 S0 r) : zG p l e R s mm args below meth c Q Z nL K0 S0 pc ls st f m := by
  unfold zl2 at h
  split at h
  · cases h
    intro H locs LS hl hh hs h1 h2
    exact lv_land hx hb hd (k H locs LS hl hh hs h1 h2)
  · cases h

theorem zs_lor (hx : p.tables.exec = Jvm.exec) (hb : c.code = cc) {pc : Nat} {ls st : List Value} {f : zF} {m : zM} {r : zT}   (hd : decode cc pc = .ok (.lor, 1)) (h : zl2 pc ls st f m (fun x y => x ||| y) = some r) (k : zKt p l e R s mm args below meth c Q Z nL K0 S0 r) : zG p l e R s mm args below meth c Q Z nL K0 S0 pc ls st f m := by
  unfold zl2 at h
  split at h
  · cases h
    intro H locs LS hl hh hs h1 h2
    exact lv_lor hx hb hd (k H locs LS hl hh hs h1 h2)
  · cases h

theorem zs_lshl (hx : p.tables.exec = Jvm.exec) (hb : c.code = cc) {pc : Nat} {ls st : List Value} {f : zF} {m : zM} {r : zT}   (hd : decode cc pc = .ok (.lshl, 1)) (h : zls pc ls st f m (fun x y => x <<< (y.toInt64 &&& 63)) = some r) (k : zKt p l e R s mm args below meth c Q Z nL K0 S0 r) : zG p l e R s mm args below meth c Q Z nL K0 S0 pc ls st f m := by
  unfold zls at h
  split at h
  · cases h
    intro H locs LS hl hh hs h1 h2
    exact lv_lshl hx hb hd rfl (k H locs LS hl hh hs h1 h2)
  · cases h

theorem zs_lshr (hx : p.tables.exec = Jvm.exec) (hb : c.code = cc) {pc : Nat} {ls st : List Value} {f : zF} {m : zM} {r : zT}   (hd : decode cc pc = .ok (.lshr, 1)) (h : zls pc ls st f m (fun x y => x >>> (y.toInt64 &&& 63)) = some r) (k : zKt p l e R s mm args below meth c Q Z nL K0 S0 r) : zG p l e R s mm args below meth c Q Z nL K0 S0 pc ls st f m := by
  unfold zls at h
  split at h
  · cases h
    intro H locs LS hl hh hs h1 h2
    exact lv_lshr hx hb hd rfl (k H locs LS hl hh hs h1 h2)
  · cases h

theorem zs_lushr (hx : p.tables.exec = Jvm.exec) (hb : c.code = cc) {pc : Nat} {ls st : List Value} {f : zF} {m : zM} {r : zT}   (hd : decode cc pc = .ok (.lushr, 1)) (h : zls pc ls st f m (fun x y => (x.toUInt64 >>> (y.toInt64.toUInt64 &&& Int64.toUInt64 63)).toInt64) = some r) (k : zKt p l e R s mm args below meth c Q Z nL K0 S0 r) : zG p l e R s mm args below meth c Q Z nL K0 S0 pc ls st f m := by
  unfold zls at h
  split at h
  · cases h
    intro H locs LS hl hh hs h1 h2
    exact lv_lushr hx hb hd rfl (k H locs LS hl hh hs h1 h2)
  · cases h

theorem zs_idiv (hx : p.tables.exec = Jvm.exec) (hb : c.code = cc) {pc : Nat} {ls st : List Value} {f : zF} {m : zM} {x y : Int32} (h0 : ¬ y = 0) (hd : decode cc pc = .ok (.idiv, 1)) (k : zKt p l e R s mm args below meth c Q Z nL K0 S0 (.inl (pc + 1, ls, .int (x / y) :: st, f, m))) : zG p l e R s mm args below meth c Q Z nL K0 S0 pc ls (.int y :: .int x :: st) f m := by
  intro H locs LS hl hh hs h1 h2
  exact lv_idiv hx hb hd h0 (k H locs LS hl hh hs h1 h2)

theorem zs_irem (hx : p.tables.exec = Jvm.exec) (hb : c.code = cc) {pc : Nat} {ls st : List Value} {f : zF} {m : zM} {x y : Int32} (h0 : ¬ y = 0) (hd : decode cc pc = .ok (.irem, 1)) (k : zKt p l e R s mm args below meth c Q Z nL K0 S0 (.inl (pc + 1, ls, .int (x - x / y * y) :: st, f, m))) : zG p l e R s mm args below meth c Q Z nL K0 S0 pc ls (.int y :: .int x :: st) f m := by
  intro H locs LS hl hh hs h1 h2
  exact lv_irem hx hb hd h0 (k H locs LS hl hh hs h1 h2)

theorem zs_ineg (hx : p.tables.exec = Jvm.exec) (hb : c.code = cc) {pc : Nat} {ls st : List Value} {f : zF} {m : zM} {x : Int32}  (hd : decode cc pc = .ok (.ineg, 1)) (k : zKt p l e R s mm args below meth c Q Z nL K0 S0 (.inl (pc + 1, ls, .int (-x) :: st, f, m))) : zG p l e R s mm args below meth c Q Z nL K0 S0 pc ls (.int x :: st) f m := by
  intro H locs LS hl hh hs h1 h2
  exact lv_ineg hx hb hd (k H locs LS hl hh hs h1 h2)

theorem zs_lcmp (hx : p.tables.exec = Jvm.exec) (hb : c.code = cc) {pc : Nat} {ls st : List Value} {f : zF} {m : zM} {x y : Int64}  (hd : decode cc pc = .ok (.lcmp, 1)) (k : zKt p l e R s mm args below meth c Q Z nL K0 S0 (.inl (pc + 1, ls, .int (lg_cmp x y) :: st, f, m))) : zG p l e R s mm args below meth c Q Z nL K0 S0 pc ls (.long y :: .long x :: st) f m := by
  intro H locs LS hl hh hs h1 h2
  exact W.lcmp hx hb hd (k H locs LS hl hh hs h1 h2)

theorem zs_i2l (hx : p.tables.exec = Jvm.exec) (hb : c.code = cc) {pc : Nat} {ls st : List Value} {f : zF} {m : zM} {x : Int32}  (hd : decode cc pc = .ok (.i2l, 1)) (k : zKt p l e R s mm args below meth c Q Z nL K0 S0 (.inl (pc + 1, ls, .long x.toInt64 :: st, f, m))) : zG p l e R s mm args below meth c Q Z nL K0 S0 pc ls (.int x :: st) f m := by
  intro H locs LS hl hh hs h1 h2
  exact lv_i2l hx hb hd rfl (k H locs LS hl hh hs h1 h2)

theorem zs_l2i (hx : p.tables.exec = Jvm.exec) (hb : c.code = cc) {pc : Nat} {ls st : List Value} {f : zF} {m : zM} {x : Int64}  (hd : decode cc pc = .ok (.l2i, 1)) (k : zKt p l e R s mm args below meth c Q Z nL K0 S0 (.inl (pc + 1, ls, .int x.toInt32 :: st, f, m))) : zG p l e R s mm args below meth c Q Z nL K0 S0 pc ls (.long x :: st) f m := by
  intro H locs LS hl hh hs h1 h2
  exact lv_l2i hx hb hd rfl (k H locs LS hl hh hs h1 h2)

theorem zs_i2c (hx : p.tables.exec = Jvm.exec) (hb : c.code = cc) {pc : Nat} {ls st : List Value} {f : zF} {m : zM} {x : Int32}  (hd : decode cc pc = .ok (.i2c, 1)) (k : zKt p l e R s mm args below meth c Q Z nL K0 S0 (.inl (pc + 1, ls, .int (x.toUInt32 % 65536).toInt32 :: st, f, m))) : zG p l e R s mm args below meth c Q Z nL K0 S0 pc ls (.int x :: st) f m := by
  intro H locs LS hl hh hs h1 h2
  exact lv_i2c hx hb hd rfl (k H locs LS hl hh hs h1 h2)

theorem zs_i2d (hx : p.tables.exec = Jvm.exec) (hb : c.code = cc) {pc : Nat} {ls st : List Value} {f : zF} {m : zM} {x : Int32}  (hd : decode cc pc = .ok (.i2d, 1)) (k : zKt p l e R s mm args below meth c Q Z nL K0 S0 (.inl (pc + 1, ls, .double (FP.i2d x) :: st, f, m))) : zG p l e R s mm args below meth c Q Z nL K0 S0 pc ls (.int x :: st) f m := by
  intro H locs LS hl hh hs h1 h2
  exact lv_i2d hx hb hd (k H locs LS hl hh hs h1 h2)

theorem zs_ddiv (hx : p.tables.exec = Jvm.exec) (hb : c.code = cc) {pc : Nat} {ls st : List Value} {f : zF} {m : zM} {x y : UInt64} (h0 : FP.ddiv x y &&& 0x7fffffffffffffff ≤ 0x7ff0000000000000) (hd : decode cc pc = .ok (.ddiv, 1)) (k : zKt p l e R s mm args below meth c Q Z nL K0 S0 (.inl (pc + 1, ls, .double (FP.ddiv x y) :: st, f, m))) : zG p l e R s mm args below meth c Q Z nL K0 S0 pc ls (.double y :: .double x :: st) f m := by
  intro H locs LS hl hh hs h1 h2
  exact lv_ddiv hx hb hd h0 (k H locs LS hl hh hs h1 h2)

theorem zs_dcmp (hx : p.tables.exec = Jvm.exec) (hb : c.code = cc) {pc : Nat} {ls st : List Value} {f : zF} {m : zM} {x y : UInt64} {op : CmpOp}  (hd : decode cc pc = .ok (.dcmp op, 1)) (k : zKt p l e R s mm args below meth c Q Z nL K0 S0 (.inl (pc + 1, ls, .int (Op.cmpValue (FP.dcmp x y) op) :: st, f, m))) : zG p l e R s mm args below meth c Q Z nL K0 S0 pc ls (.double y :: .double x :: st) f m := by
  intro H locs LS hl hh hs h1 h2
  exact lv_dcmp hx hb hd (k H locs LS hl hh hs h1 h2)

theorem zs_dupi (hx : p.tables.exec = Jvm.exec) (hb : c.code = cc) {pc : Nat} {ls st : List Value} {f : zF} {m : zM} {x : Int32}  (hd : decode cc pc = .ok (.dup, 1)) (k : zKt p l e R s mm args below meth c Q Z nL K0 S0 (.inl (pc + 1, ls, .int x :: .int x :: st, f, m))) : zG p l e R s mm args below meth c Q Z nL K0 S0 pc ls (.int x :: st) f m := by
  intro H locs LS hl hh hs h1 h2
  exact lv_dup hx hb hd rfl (k H locs LS hl hh hs h1 h2)

theorem zs_dupa (hx : p.tables.exec = Jvm.exec) (hb : c.code = cc) {pc : Nat} {ls st : List Value} {f : zF} {m : zM} {x : Nat}  (hd : decode cc pc = .ok (.dup, 1)) (k : zKt p l e R s mm args below meth c Q Z nL K0 S0 (.inl (pc + 1, ls, .ref x :: .ref x :: st, f, m))) : zG p l e R s mm args below meth c Q Z nL K0 S0 pc ls (.ref x :: st) f m := by
  intro H locs LS hl hh hs h1 h2
  exact lv_dup hx hb hd rfl (k H locs LS hl hh hs h1 h2)

theorem zs_popi (hx : p.tables.exec = Jvm.exec) (hb : c.code = cc) {pc : Nat} {ls st : List Value} {f : zF} {m : zM} {x : Int32}  (hd : decode cc pc = .ok (.pop, 1)) (k : zKt p l e R s mm args below meth c Q Z nL K0 S0 (.inl (pc + 1, ls, st, f, m))) : zG p l e R s mm args below meth c Q Z nL K0 S0 pc ls (.int x :: st) f m := by
  intro H locs LS hl hh hs h1 h2
  exact lv_pop hx hb hd (va := .int x) rfl (k H locs LS hl hh hs h1 h2)

theorem zs_popa (hx : p.tables.exec = Jvm.exec) (hb : c.code = cc) {pc : Nat} {ls st : List Value} {f : zF} {m : zM} {x : Nat}  (hd : decode cc pc = .ok (.pop, 1)) (k : zKt p l e R s mm args below meth c Q Z nL K0 S0 (.inl (pc + 1, ls, st, f, m))) : zG p l e R s mm args below meth c Q Z nL K0 S0 pc ls (.ref x :: st) f m := by
  intro H locs LS hl hh hs h1 h2
  exact lv_pop hx hb hd (va := .ref (zad Z x)) rfl (k H locs LS hl hh hs h1 h2)

theorem zs_dup2ia (hx : p.tables.exec = Jvm.exec) (hb : c.code = cc) {pc : Nat} {ls st : List Value} {f : zF} {m : zM} {x : Int32} {y : Nat}  (hd : decode cc pc = .ok (.dup2, 1)) (k : zKt p l e R s mm args below meth c Q Z nL K0 S0 (.inl (pc + 1, ls, .int x :: .ref y :: .int x :: .ref y :: st, f, m))) : zG p l e R s mm args below meth c Q Z nL K0 S0 pc ls (.int x :: .ref y :: st) f m := by
  intro H locs LS hl hh hs h1 h2
  exact lv_dup2_11 hx hb hd rfl rfl (k H locs LS hl hh hs h1 h2)

theorem zs_dup2l (hx : p.tables.exec = Jvm.exec) (hb : c.code = cc) {pc : Nat} {ls st : List Value} {f : zF} {m : zM} {x : Int64}  (hd : decode cc pc = .ok (.dup2, 1)) (k : zKt p l e R s mm args below meth c Q Z nL K0 S0 (.inl (pc + 1, ls, .long x :: .long x :: st, f, m))) : zG p l e R s mm args below meth c Q Z nL K0 S0 pc ls (.long x :: st) f m := by
  intro H locs LS hl hh hs h1 h2
  exact lv_dup2_2 hx hb hd rfl (k H locs LS hl hh hs h1 h2)

theorem zs_goto (hx : p.tables.exec = Jvm.exec) (hb : c.code = cc) {pc : Nat} {ls st : List Value} {f : zF} {m : zM} {r : zT} {off : Int} (hd : decode cc pc = .ok (.goto off, 3)) (h : zjp pc off ls st f m = some r) (k : zKt p l e R s mm args below meth c Q Z nL K0 S0 r) : zG p l e R s mm args below meth c Q Z nL K0 S0 pc ls st f m := by
  unfold zjp at h
  by_cases h0 : 0 ≤ (pc : Int) + off
  · rw [if_pos h0] at h
    cases h
    intro H locs LS hl hh hs h1 h2
    exact lv_goto hx hb hd (Int.toNat_of_nonneg h0).symm (k H locs LS hl hh hs h1 h2)
  · rw [if_neg h0] at h; cases h

theorem zs_if (hx : p.tables.exec = Jvm.exec) (hb : c.code = cc) {pc : Nat} {ls st : List Value} {f : zF} {m : zM} {r : zT} {k0 : Jvm.ClassFile.Cond} {off : Int}  (hd : decode cc pc = .ok (.ifCond k0 off, 3)) (h : zif pc ls st f m k0 off = some r) (k : zKt p l e R s mm args below meth c Q Z nL K0 S0 r) : zG p l e R s mm args below meth c Q Z nL K0 S0 pc ls st f m := by
  unfold zif at h
  split at h
  · by_cases h0 : 0 ≤ (pc : Int) + off
    · rw [if_pos h0] at h
      have ht := (Int.toNat_of_nonneg h0).symm
      intro H locs LS hl hh hs h1 h2
      cases k0
      · refine lv_if_eq hx hb hd ht (fun q => ?_) (fun q => ?_)
        · simp only [zc1, decide_eq_true_eq] at h
          rw [if_pos (by first | exact q | simpa using q)] at h
          cases h
          exact k H locs LS hl hh hs h1 h2
        · simp only [zc1, decide_eq_true_eq] at h
          rw [if_neg (by first | exact q | simpa using q)] at h
          cases h
          exact k H locs LS hl hh hs h1 h2
      · refine lv_if_ne hx hb hd ht (fun q => ?_) (fun q => ?_)
        · simp only [zc1, decide_eq_true_eq] at h
          rw [if_pos (by first | exact q | simpa using q)] at h
          cases h
          exact k H locs LS hl hh hs h1 h2
        · simp only [zc1, decide_eq_true_eq] at h
          rw [if_neg (by first | exact q | simpa using q)] at h
          cases h
          exact k H locs LS hl hh hs h1 h2
      · refine lv_if_lt hx hb hd ht (fun q => ?_) (fun q => ?_)
        · simp only [zc1, decide_eq_true_eq] at h
          rw [if_pos (by first | exact q | simpa using q)] at h
          cases h
          exact k H locs LS hl hh hs h1 h2
        · simp only [zc1, decide_eq_true_eq] at h
          rw [if_neg (by first | exact q | simpa using q)] at h
          cases h
          exact k H locs LS hl hh hs h1 h2
      · refine lv_if_ge hx hb hd ht (fun q => ?_) (fun q => ?_)
        · simp only [zc1, decide_eq_true_eq] at h
          rw [if_pos (by first | exact q | simpa using q)] at h
          cases h
          exact k H locs LS hl hh hs h1 h2
        · simp only [zc1, decide_eq_true_eq] at h
          rw [if_neg (by first | exact q | simpa using q)] at h
          cases h
          exact k H locs LS hl hh hs h1 h2
      · refine lv_if_gt hx hb hd ht (fun q => ?_) (fun q => ?_)
        · simp only [zc1, decide_eq_true_eq] at h
          rw [if_pos (by first | exact q | simpa using q)] at h
          cases h
          exact k H locs LS hl hh hs h1 h2
        · simp only [zc1, decide_eq_true_eq] at h
          rw [if_neg (by first | exact q | simpa using q)] at h
          cases h
          exact k H locs LS hl hh hs h1 h2
      · refine lv_if_le hx hb hd ht (fun q => ?_) (fun q => ?_)
        · simp only [zc1, decide_eq_true_eq] at h
          rw [if_pos (by first | exact q | simpa using q)] at h
          cases h
          exact k H locs LS hl hh hs h1 h2
        · simp only [zc1, decide_eq_true_eq] at h
          rw [if_neg (by first | exact q | simpa using q)] at h
          cases h
          exact k H locs LS hl hh hs h1 h2
    · rw [if_neg h0] at h; cases h
  · cases h

theorem zs_icmp (hx : p.tables.exec = Jvm.exec) (hb : c.code = cc) {pc : Nat} {ls st : List Value} {f : zF} {m : zM} {r : zT} {k0 : Jvm.ClassFile.Cond} {off : Int}  (hd : decode cc pc = .ok (.if_icmp k0 off, 3)) (h : zic pc ls st f m k0 off = some r) (k : zKt p l e R s mm args below meth c Q Z nL K0 S0 r) : zG p l e R s mm args below meth c Q Z nL K0 S0 pc ls st f m := by
  unfold zic at h
  split at h
  · by_cases h0 : 0 ≤ (pc : Int) + off
    · rw [if_pos h0] at h
      have ht := (Int.toNat_of_nonneg h0).symm
      intro H locs LS hl hh hs h1 h2
      cases k0
      · refine lv_icmp_eq hx hb hd ht (fun q => ?_) (fun q => ?_)
        · simp only [zc2, decide_eq_true_eq] at h
          rw [if_pos (by first | exact q | simpa using q)] at h
          cases h
          exact k H locs LS hl hh hs h1 h2
        · simp only [zc2, decide_eq_true_eq] at h
          rw [if_neg (by first | exact q | simpa using q)] at h
          cases h
          exact k H locs LS hl hh hs h1 h2
      · refine lv_icmp_ne hx hb hd ht (fun q => ?_) (fun q => ?_)
        · simp only [zc2, decide_eq_true_eq] at h
          rw [if_pos (by first | exact q | simpa using q)] at h
          cases h
          exact k H locs LS hl hh hs h1 h2
        · simp only [zc2, decide_eq_true_eq] at h
          rw [if_neg (by first | exact q | simpa using q)] at h
          cases h
          exact k H locs LS hl hh hs h1 h2
      · refine lv_icmp_lt hx hb hd ht (fun q => ?_) (fun q => ?_)
        · simp only [zc2, decide_eq_true_eq] at h
          rw [if_pos (by first | exact q | simpa using q)] at h
          cases h
          exact k H locs LS hl hh hs h1 h2
        · simp only [zc2, decide_eq_true_eq] at h
          rw [if_neg (by first | exact q | simpa using q)] at h
          cases h
          exact k H locs LS hl hh hs h1 h2
      · refine lv_icmp_ge hx hb hd ht (fun q => ?_) (fun q => ?_)
        · simp only [zc2, decide_eq_true_eq] at h
          rw [if_pos (by first | exact q | simpa using q)] at h
          cases h
          exact k H locs LS hl hh hs h1 h2
        · simp only [zc2, decide_eq_true_eq] at h
          rw [if_neg (by first | exact q | simpa using q)] at h
          cases h
          exact k H locs LS hl hh hs h1 h2
      · refine lv_icmp_gt hx hb hd ht (fun q => ?_) (fun q => ?_)
        · simp only [zc2, decide_eq_true_eq] at h
          rw [if_pos (by first | exact q | simpa using q)] at h
          cases h
          exact k H locs LS hl hh hs h1 h2
        · simp only [zc2, decide_eq_true_eq] at h
          rw [if_neg (by first | exact q | simpa using q)] at h
          cases h
          exact k H locs LS hl hh hs h1 h2
      · refine lv_icmp_le hx hb hd ht (fun q => ?_) (fun q => ?_)
        · simp only [zc2, decide_eq_true_eq] at h
          rw [if_pos (by first | exact q | simpa using q)] at h
          cases h
          exact k H locs LS hl hh hs h1 h2
        · simp only [zc2, decide_eq_true_eq] at h
          rw [if_neg (by first | exact q | simpa using q)] at h
          cases h
          exact k H locs LS hl hh hs h1 h2
    · rw [if_neg h0] at h; cases h
  · cases h

theorem zs_sw (hx : p.tables.exec = Jvm.exec) (hb : c.code = cc) {pc : Nat} {ls st : List Value} {f : zF} {m : zM} {r : zT} {dflt lo hi : Int} {offs : Array Int} {len : Nat}  (hd : decode cc pc = .ok (.tableswitch dflt lo hi offs, len)) (h : zsw pc ls st f m dflt lo hi offs = some r) (k : zKt p l e R s mm args below meth c Q Z nL K0 S0 r) : zG p l e R s mm args below meth c Q Z nL K0 S0 pc ls st f m := by
  unfold zsw at h
  split at h
  · rename_i x r0
    by_cases h0 : x.toInt < lo ∨ hi < x.toInt
    · rw [if_pos h0] at h
      unfold zjp at h
      by_cases h3 : 0 ≤ (pc : Int) + dflt
      · rw [if_pos h3] at h
        cases h
        intro H locs LS hl hh hs h1 h2
        exact lv_tableOut hx hb hd h0 (Int.toNat_of_nonneg h3).symm (k H locs LS hl hh hs h1 h2)
      · rw [if_neg h3] at h; cases h
    · rw [if_neg h0] at h
      split at h
      · rename_i o ho
        unfold zjp at h
        by_cases h3 : 0 ≤ (pc : Int) + o
        · rw [if_pos h3] at h
          cases h
          intro H locs LS hl hh hs h1 h2
          refine lv_tableIn hx hb hd (fun q => h0 (Or.inl q)) (fun q => h0 (Or.inr q)) (by rw [← Array.getElem?_toList]; exact ho) (Int.toNat_of_nonneg h3).symm (k H locs LS hl hh hs h1 h2)
        · rw [if_neg h3] at h; cases h
      · cases h
  · cases h

end ZS
