/-! SOUNDNESS: calls. A method's contract, for one run of the interpreter -/
def zwsq (q : zQ) : List Cond := zcode q :: zTs
def zrm (d k n : Nat) : Room := { frames := d + 6, cells := k, slots := n, locals := 40 * d + 200 }
def zPc (Z : zZ) (vs : List Value) (f : zF) (m : zM) : Array Value → State → Prop := va_Pc (vs.map (zcv Z)) (fun U => zK Z U ∧ zS Z U U.heap ∧ zHR Z f m U.heap)
def zQc (Z : zZ) (o : zO) (f' : zF) (m' : zM) : Array Value → State → Outcome → State → Prop := fun _ st oc t => (∃ v, o = .inl v ∧ oc = .returned (v.map (zcv Z)) ∧ zHR Z f' m' t.heap) ∧ va_F (zA Z) st t
def zXC (Z : zZ) (o : zO) (f' : zF) (m' : zM) : String → State → State → Prop := fun E st t => ∃ e, o = .inr e ∧ e < 3 ∧ E = zexn e ∧ zHR Z f' m' t.heap ∧ va_F (zA Z) st t
def zCt (l : Launch) (Z : zZ) (d : Nat) (q : zQ) (vs : List Value) (f : zF) (m : zM) (o : zO) (f' : zF) (m' : zM) : Prop :=
  m.2.1 ≤ m'.2.1 ∧ m.2.2 ≤ m'.2.2 ∧ vx_Met l q.y (zwsq q) (zrm d (m'.2.1 - m.2.1) (m'.2.2 - m.2.2)) (zPc Z vs f m) (zQc Z o f' m') (zXC Z o f' m') (m'.2.1 - m.2.1) (m'.2.2 - m.2.2) (zA Z)
theorem va_AOA.moved {t : FieldType} {u U : State} (hvm : u.vm.Alike U.vm) (h : va_AOA t u) : va_AOA t U := Jvm.Stand.arrayOver_alikeB hvm h
theorem zK.warm {Z : zZ} {s U : State} (hW : s.WarmedH U.vm) (h : zK Z s) : zK Z U :=
  ⟨va_K.moved hW.alike h.1, fun E E' h1 h2 h3 => va_Nc.moved hW.alike (h.2.1 E E' h1 h2 h3), fun q hq => (h.2.2.1 q hq).imp fun a ha => vk_R.warm hW ha, fun q hq => va_Nw.warmM hW (h.2.2.2.1 q hq),
    va_AO.moved hW.alike h.2.2.2.2.1, va_AOA.moved hW.alike h.2.2.2.2.2.1, va_AOA.moved hW.alike h.2.2.2.2.2.2.1, fun e he => va_Nw.warmC hW (h.2.2.2.2.2.2.2.1 e he), fun Y hY => va_Nw.warmD hW (h.2.2.2.2.2.2.2.2 Y hY)⟩
theorem zK.same {Z : zZ} {u U : State} (hv : U.vm = u.vm) (h : zK Z u) : zK Z U := by
  have hal : u.vm.Alike U.vm := by rw [hv]; exact Vm.Alike.refl _
  exact ⟨va_K.moved hal h.1, fun E E' h1 h2 h3 => va_Nc.moved hal (h.2.1 E E' h1 h2 h3), fun q hq => (h.2.2.1 q hq).imp fun a ha => vk_R.same hv ha, fun q hq => va_Nw.same rfl hv.symm (h.2.2.2.1 q hq),
    va_AO.moved hal h.2.2.2.2.1, va_AOA.moved hal h.2.2.2.2.2.1, va_AOA.moved hal h.2.2.2.2.2.2.1, fun e he => va_Nw.same rfl hv.symm (h.2.2.2.2.2.2.2.1 e he), fun Y hY => va_Nw.same rfl hv.symm (h.2.2.2.2.2.2.2.2 Y hY)⟩
theorem zS.moved {Z : zZ} {u U : State} {H : Heap} (hvm : u.vm.Alike U.vm) (h : zS Z u H) : zS Z U H := ⟨vx_Zq.moved hvm h.1, vx_Zq.moved hvm h.2.1, va_X.moved hvm h.2.2.1, h.2.2.2⟩
theorem zS.kept {Z : zZ} {U : State} {H H1 : Heap} (h : zS Z U H) (hz : H.size ≤ H1.size) (hq : ∀ a : Nat, a < H.size → ¬ zA Z a → H1[a]? = H[a]?) : zS Z U H1 :=
  ⟨vx_Zq.kept h.1 hq, vx_Zq.kept h.2.1 hq, h.2.2.1.kept (hq _ (Nat.lt_of_lt_of_le h.2.2.2.1 h.2.2.2.2) (Nat.not_le.mpr h.2.2.2.1)), h.2.2.2.1, Nat.le_trans h.2.2.2.2 hz⟩
theorem zPc_blind (Z : zZ) (vs : List Value) (f : zF) (m : zM) : FrameBlind (zPc Z vs f m) := by
  intro a U g mk h
  obtain ⟨h1, h2, h3, h4⟩ := h
  have hv : (U.calling g mk a).vm = U.vm := rfl
  have hh : (U.calling g mk a).heap = U.heap := rfl
  exact ⟨h1, zK.same hv h2, by rw [hh]; exact zS.moved (by rw [hv]; exact Vm.Alike.refl _) h3, by rw [hh]; exact h4⟩
section ZS
variable {p : Program} {l : Launch} {e : Env} {R : Room} {s : State} {mm : MethodId} {args : Array Value} {below : List Frame} {meth : Method} {c : Code} {Q : State → Prop} {Z : zZ} {nL K0 S0 : Nat} {cc : ByteArray}
theorem zPc_at {H : Heap} {locs : List Loc} {vs : List Value} {f : zF} {m : zM} (hK : zK Z s) (hX : zS Z s s.heap) (hs : va_S (zA Z) s.heap H locs) (hh : zHR Z f m H) : ∀ U : State, U.heap = H → s.WarmedH U.vm → zPc Z vs f m (vs.map (zcv Z)).toArray U := by
  intro U hU hW
  refine ⟨rfl, zK.warm hW hK, ?_, by rw [hU]; exact hh⟩
  rw [hU]
  exact (hX.moved hW.alike).kept hs.1 hs.2.1
theorem zgood_in {q : zQ} (hc : zcode q ∈ zTs) : GoodIn zTs (zwsq q) := by
  intro w hw
  rcases List.mem_cons.mp hw with rfl | hw
  · exact ⟨hc, good_of_word (List.mem_filter.mp hc).2⟩
  · exact ⟨hw, good_of_word (List.mem_filter.mp hw).2⟩
theorem zcats {st : List Value} (h : zsz st ≤ 8) : ((st.map (zcv Z)).map fun v => v.category).sum ≤ 8 := by
  have key : ∀ (l : List Value), ((l.map (zcv Z)).map fun v => v.category).sum = zsz l := by
    intro l
    unfold zsz
    induction l with
    | nil => simp
    | cons v l ih =>
      simp only [List.map_cons, List.sum_cons]
      have : (zcv Z v).category = v.category := by cases v <;> simp [zcv, Value.category]
      rw [this, ih]
  rw [key st]
  exact h
/-- behind a run of a callee: it returns, or throws -/
theorem zs_back {H : Heap} {locs : List Loc} {LS : Array Slot} {pc cells slots mc ms : Nat} {ls rest : List Value} {st0 : List Value} {o : zO} {f' : zF} {m' : zM} {a : Array Value}
    (hr : vx_Run p l e R s mm args below meth c H locs cells slots mc ms (F0 mm pc LS st0) (rest.map (zcv Z)) (zQc Z o f' m' a) (zXC Z o f' m') (zA Z)) (hl : zL Z nL ls LS) (hs : va_S (zA Z) s.heap H locs)
    (e1 : cells + mc = m'.2.1 - K0) (e2 : slots + ms = m'.2.2 - S0) (g1 : K0 ≤ m'.2.1) (g2 : S0 ≤ m'.2.2)
    (kk : ∀ v, o = .inl v → zG p l e R s mm args below meth c Q Z nL K0 S0 (pc + 3) ls (v.toList ++ rest) f' m')
    (kx : ∀ E, o = .inr E → E < 3 → ∀ (H1 : Heap) (locs1 : List Loc) (ce : Cell) (q9 : Addr), zHR Z f' m' H1 → va_S (zA Z) s.heap H1 locs1 → H1[q9]? = some ce → ce.vm = .none → s.vm.findClass (zexn E) = some ce.cls → vx_W p l e R s mm args below meth c H1 locs1 (m'.2.1 - K0) (m'.2.2 - S0) Q (F0 mm pc LS (rest.map (zcv Z))) q9) :
    W p l e R s mm args below meth c H locs cells slots Q (F0 mm pc LS st0) := by
  intro T hT X
  rcases hr T hT X with ⟨w, st₀, t, T', L, h0, X', hL, q1, q2, ⟨⟨v, hv, hoc, hHR⟩, hF⟩, st⟩ | ⟨q, st₀, t, T', L, E, ce, h0, X', hL, q1, q2, ⟨e9, ho, he3, rfl, hHR, hF⟩, hce, hcv, hcl, st⟩
  · cases hoc
    obtain ⟨k1, k2, k3⟩ := vx_keep (A0 := zA Z) (A1 := zA Z) h0 q1 hs (fun _ _ h => h) (fun _ h => h) hL hF
    rw [e1, e2] at X'
    have := kk v hv T'.heap (locs ++ L) LS hl (by rw [q1]; exact hHR) k3 g1 g2 T' rfl X'
    obtain ⟨t2, a1, b1⟩ := this
    refine ⟨t2, st t2 ?_, b1⟩
    have e9 : ((v.toList ++ rest).map (zcv Z)) = (v.map (zcv Z)).toList ++ rest.map (zcv Z) := by cases v <;> rfl
    rw [← e9]
    exact a1
  · obtain ⟨k1, k2, k3⟩ := vx_keep (A0 := zA Z) (A1 := zA Z) h0 q1 hs (fun _ _ h => h) (fun _ h => h) hL hF
    rw [e1, e2] at X'
    obtain ⟨t2, a1, b1⟩ := kx e9 ho he3 T'.heap (locs ++ L) ce q (by rw [q1]; exact hHR) k3 (by rw [q1]; exact hce) hcv hcl T' rfl X'
    exact ⟨t2, st.trans a1, b1⟩
theorem zs_backI {H : Heap} {locs : List Loc} {LS : Array Slot} {pc cells slots mc ms : Nat} {ls rest : List Value} {st0 : List Value} {o : zO} {f' : zF} {m' : zM} {a : Array Value}
    (hr : va_Run p l e R s mm args below meth c H locs cells slots mc ms (F0 mm pc LS st0) (rest.map (zcv Z)) (zQc Z o f' m' a) (zA Z)) (hl : zL Z nL ls LS) (hs : va_S (zA Z) s.heap H locs)
    (e1 : cells + mc = m'.2.1 - K0) (e2 : slots + ms = m'.2.2 - S0) (g1 : K0 ≤ m'.2.1) (g2 : S0 ≤ m'.2.2)
    (kk : ∀ v, o = .inl v → zG p l e R s mm args below meth c Q Z nL K0 S0 (pc + 3) ls (v.toList ++ rest) f' m') :
    W p l e R s mm args below meth c H locs cells slots Q (F0 mm pc LS st0) := by
  intro T hT X
  obtain ⟨w, st₀, t, T', L, h0, X', hL, q1, q2, ⟨⟨v, hv, hoc, hHR⟩, hF⟩, st⟩ := hr T hT X
  cases hoc
  obtain ⟨k1, k2, k3⟩ := vx_keep (A0 := zA Z) (A1 := zA Z) h0 q1 hs (fun _ _ h => h) (fun _ h => h) hL hF
  rw [e1, e2] at X'
  obtain ⟨t2, a1, b1⟩ := kk v hv T'.heap (locs ++ L) LS hl (by rw [q1]; exact hHR) k3 g1 g2 T' rfl X'
  refine ⟨t2, st t2 ?_, b1⟩
  have e9 : ((v.toList ++ rest).map (zcv Z)) = (v.map (zcv Z)).toList ++ rest.map (zcv Z) := by cases v <;> rfl
  rw [← e9]
  exact a1
/-- what never throws keeps the plain contract -/
theorem zMet_of {y : MethodName} {ws : List Cond} {rm : Room} {Pc : Array Value → State → Prop} {Qc : Array Value → State → Outcome → State → Prop} {XC : String → State → State → Prop} {mc ms : Nat} {free : Addr → Prop}
    (h : vx_Met l y ws rm Pc Qc XC mc ms free) (hx : ∀ E st t, ¬ XC E st t) : Met l y ws rm Pc Qc mc ms free := by
  intro p e ha hc hk s m args below hf happ hP hK
  obtain ⟨n, o, h1, h2, h3, h4⟩ := h p e ha hc hk s m args below hf happ hP hK
  refine ⟨n, o, h1, h2, h3, ?_⟩
  rcases h4 with h4 | ⟨q, -, E, ce, L, h5, -⟩
  · exact h4
  · exact absurd h5 (hx _ _ _)
/-- the arguments under the stack's top, as a call takes them -/
theorem z_args {st : List Value} {b : Nat} (hb : b ≤ st.length) : st.map (zcv Z) = (((st.take b).reverse).map (zcv Z)).reverse ++ (st.drop b).map (zcv Z) := by
  rw [List.map_reverse, List.reverse_reverse, ← List.map_append, List.take_append_drop]
theorem z_args1 {st : List Value} {b p0 : Nat} (h : (st.take b).getLast? = some (.ref p0)) : ∃ vs, (st.take b).reverse = .ref p0 :: vs := by
  rw [List.getLast?_eq_head?_reverse] at h
  cases hr : (st.take b).reverse with
  | nil => rw [hr] at h; simp at h
  | cons v vs => rw [hr] at h; simp at h; subst h; exact ⟨vs, rfl⟩
section calls
variable {own : String} {idx a b : Nat} {qa : zQ} {d : Nat} {pc : Nat} {ls st : List Value} {f : zF} {m : zM} {o : zO} {f' : zF} {m' : zM}
theorem zs_callV (hx : p.tables.exec = Jvm.exec) (hb : c.code = cc) (hml : c.maxLocals = nL) (hts : ∀ w ∈ lw_tbl, goodWord w = true → w.before args s = true) (hown : s.vm.findClass own = some mm.cls) (hK : zK Z s) (hX : zS Z s s.heap)
    (hd : decode cc pc = .ok (.invokevirtual idx, 3)) (hbs : b ≤ st.length) (hb1 : 1 ≤ b) (hrest : zsz (st.drop b) ≤ 8) {ci p0 : Nat} {fs : List Value} (hlast : (st.take b).getLast? = some (.ref p0)) (hp0 : f p0 = some (.inr (ci, fs))) (hci : (vwCl[ci]?).map (fun x => x.1) = some qa.y.cls)
    (w1 : Cond.methodLink own idx qa.y ∈ zTs) (w2 : Cond.instanceMethod qa.y ∈ zTs) (w3 : Cond.selects qa.y.cls qa.y qa.y ∈ zTs) (w4 : Cond.initialized qa.y.cls ∈ zTs) (w5 : zcode qa ∈ zTs) (hh0 : qa.h = []) (hn21 : qa.n ≤ 21) (hnar : znar qa.y = some (b - 1)) (hmh : zmh qa.y = true)
    (hC : zCt l Z d qa (st.take b).reverse f m o f' m') (hR : d + 1 + 6 ≤ R.frames ∧ 40 * (d + 1) + 200 ≤ R.locals) (hRc : m'.2.1 ≤ K0 + R.cells) (hRs : m'.2.2 ≤ S0 + R.slots)
    (kk : ∀ v, o = .inl v → zG p l e R s mm args below meth c Q Z nL K0 S0 (pc + 3) ls (v.toList ++ st.drop b) f' m')
    (kx : ∀ E, o = .inr E → E < 3 → ∀ (H1 : Heap) (locs1 : List Loc) (LS : Array Slot) (ce : Cell) (q9 : Addr), zL Z nL ls LS → K0 ≤ m'.2.1 → S0 ≤ m'.2.2 → zHR Z f' m' H1 → va_S (zA Z) s.heap H1 locs1 → H1[q9]? = some ce → ce.vm = .none → s.vm.findClass (zexn E) = some ce.cls → vx_W p l e R s mm args below meth c H1 locs1 (m'.2.1 - K0) (m'.2.2 - S0) Q (F0 mm pc LS ((st.drop b).map (zcv Z))) q9) :
    zG p l e R s mm args below meth c Q Z nL K0 S0 pc ls st f m := by
  intro H locs LS hl hh hs h1 h2
  obtain ⟨c1, c2, hM⟩ := hC
  obtain ⟨vs, hvs⟩ := z_args1 hlast
  have hts' := zTs_of hts
  have hcode : zwsq qa = Cond.code qa.y qa.c qa.n qa.r :: zTs := by simp [zwsq, zcode, hh0]
  simp only [zmh, Bool.and_eq_true, decide_eq_true_eq] at hmh
  have cb : CallB R s args own idx qa.y qa.c qa.n qa.r (zwsq qa) (zrm d (m'.2.1 - m.2.1) (m'.2.2 - m.2.2)) (m'.2.1 - m.2.1) (m'.2.2 - m.2.2) (b - 1) :=
    callB_of (b - 1) hts' (zgood_in w5) hcode rfl rfl (hts' _ w4) (hts' _ w1) ⟨hmh.1, hmh.2, hnar⟩ ⟨by simp only [zrm]; omega, by simp only [zrm]; omega⟩
  obtain ⟨N, i, rfl, hi, hP, he⟩ := hh.cell hp0 z_obj
  have hrecv : ∃ cellB : Cell, H[zad Z (i + 1)]? = some cellB ∧ cellB.vm.isStatics = false ∧ s.vm.findClass qa.y.cls = some cellB.cls := by
    cases hv : vwCl[ci]? with
    | none => rw [hv] at hci; cases hci
    | some rr =>
      rw [hv] at hci
      have hcc : rr.1 = qa.y.cls := Option.some.inj hci
      rw [← hcc]
      exact va_recv hK.1 hP hv he
  have hargs := z_args (Z := Z) hbs
  rw [hvs, List.map_cons] at hargs
  have hpre := zPc_at (vs := (st.take b).reverse) hK hX hs hh
  rw [hvs] at hpre
  rw [hvs] at hM
  have hlen : (vs.map (zcv Z)).length = b - 1 := by
    have := congrArg List.length hvs
    simp at this
    rw [List.length_map]
    omega
  rw [hargs]
  refine zs_back (ls := ls) (o := o) (vx_runV (As := vs.map (zcv Z)) (C := qa.y.cls) ⟨hx, hb, hml, hown, hts'⟩ hM ⟨cb, hts' _ w2, hts' _ w3⟩ ⟨zPc_blind _ _ _ _, hrecv, hpre⟩ rfl hlen (by rw [hl.2.1]) (by rw [List.reverse_cons, List.append_assoc]; rfl) (lv_room (zcats hrest)) hd ⟨by omega, by omega⟩) hl hs (by omega) (by omega) (by omega) (by omega) kk (fun E hE h3 H1 locs1 ce q9 => kx E hE h3 H1 locs1 LS ce q9 hl (by omega) (by omega))
theorem zs_callS (hx : p.tables.exec = Jvm.exec) (hb : c.code = cc) (hml : c.maxLocals = nL) (hts : ∀ w ∈ lw_tbl, goodWord w = true → w.before args s = true) (hown : s.vm.findClass own = some mm.cls) (hK : zK Z s) (hX : zS Z s s.heap)
    (hd : decode cc pc = .ok (.invokestatic idx, 3)) (hbs : b ≤ st.length) (hrest : zsz (st.drop b) ≤ 8)
    (w1 : Cond.methodLink own idx qa.y ∈ zTs) (w2 : Cond.static qa.y ∈ zTs) (w4 : Cond.initialized qa.y.cls ∈ zTs) (w5 : zcode qa ∈ zTs) (hn21 : qa.n ≤ 21) (hnar : znar qa.y = some b) (hmh : zmh qa.y = true)
    (hC : zCt l Z d qa (st.take b).reverse f m o f' m') (hR : d + 1 + 6 ≤ R.frames ∧ 40 * (d + 1) + 200 ≤ R.locals) (hRc : m'.2.1 ≤ K0 + R.cells) (hRs : m'.2.2 ≤ S0 + R.slots)
    (kk : ∀ v, o = .inl v → zG p l e R s mm args below meth c Q Z nL K0 S0 (pc + 3) ls (v.toList ++ st.drop b) f' m')
    (kx : ∀ E, o = .inr E → E < 3 → ∀ (H1 : Heap) (locs1 : List Loc) (LS : Array Slot) (ce : Cell) (q9 : Addr), zL Z nL ls LS → K0 ≤ m'.2.1 → S0 ≤ m'.2.2 → zHR Z f' m' H1 → va_S (zA Z) s.heap H1 locs1 → H1[q9]? = some ce → ce.vm = .none → s.vm.findClass (zexn E) = some ce.cls → vx_W p l e R s mm args below meth c H1 locs1 (m'.2.1 - K0) (m'.2.2 - S0) Q (F0 mm pc LS ((st.drop b).map (zcv Z))) q9) :
    zG p l e R s mm args below meth c Q Z nL K0 S0 pc ls st f m := by
  intro H locs LS hl hh hs h1 h2
  obtain ⟨c1, c2, hM⟩ := hC
  have hts' := zTs_of hts
  simp only [zmh, Bool.and_eq_true, decide_eq_true_eq] at hmh
  have hargs := z_args (Z := Z) hbs
  have hpre := zPc_at (vs := (st.take b).reverse) hK hX hs hh
  have hlen : ((st.take b).reverse.map (zcv Z)).length = b := by simp; omega
  rw [hargs]
  have hgood := zgood_in w5
  cases hh0 : qa.h with
  | nil =>
    have hcode : zwsq qa = Cond.code qa.y qa.c qa.n qa.r :: zTs := by simp [zwsq, zcode, hh0]
    have cb : CallB R s args own idx qa.y qa.c qa.n qa.r (zwsq qa) (zrm d (m'.2.1 - m.2.1) (m'.2.2 - m.2.2)) (m'.2.1 - m.2.1) (m'.2.2 - m.2.2) b :=
      callB_of b hts' hgood hcode rfl rfl (hts' _ w4) (hts' _ w1) ⟨hmh.1, hmh.2, hnar⟩ ⟨by simp only [zrm]; omega, by simp only [zrm]; omega⟩
    exact zs_back (ls := ls) (o := o) (vx_runS (As := (st.take b).reverse.map (zcv Z)) ⟨hx, hb, hml, hown, hts'⟩ hM ⟨cb, hts' _ w2⟩ ⟨zPc_blind _ _ _ _, hpre⟩ rfl hlen (by rw [hl.2.1]) rfl (lv_room (zcats hrest)) hd ⟨by omega, by omega⟩) hl hs (by omega) (by omega) (by omega) (by omega) kk (fun E hE h3 H1 locs1 ce q9 => kx E hE h3 H1 locs1 LS ce q9 hl (by omega) (by omega))
  | cons h9 t9 =>
    have hcode : zwsq qa = Cond.codeWith qa.y qa.c qa.n qa.r (h9 :: t9) :: zTs := by simp [zwsq, zcode, hh0]
    have hGS : GoodIn zTs (va_wsS own idx qa.y (zwsq qa)) := by
      intro w hw
      rcases List.mem_append.mp hw with hw | hw
      · have : w ∈ zTs := by
          simp only [List.mem_cons, List.not_mem_nil, or_false] at hw
          rcases hw with rfl | rfl | rfl
          · exact w1
          · exact w2
          · exact w4
        exact ⟨this, good_of_word (List.mem_filter.mp this).2⟩
      · exact hgood w hw
    have cw : vx_CSW R s args own idx qa.y qa.c qa.n qa.r (h9 :: t9) (zwsq qa) (zrm d (m'.2.1 - m.2.1) (m'.2.2 - m.2.2)) (m'.2.1 - m.2.1) (m'.2.2 - m.2.2) b :=
      vx_cwSW b hts' hGS hcode rfl rfl ⟨hmh.1, hmh.2, hnar⟩ ⟨by simp only [zrm]; omega, by simp only [zrm]; omega⟩
    exact zs_back (ls := ls) (o := o) (vx_runSX (As := (st.take b).reverse.map (zcv Z)) ⟨hx, hb, hml, hown, hts'⟩ hM cw ⟨zPc_blind _ _ _ _, hpre⟩ rfl hlen (by rw [hl.2.1]) rfl (lv_room (zcats hrest)) hd ⟨by omega, by omega⟩) hl hs (by omega) (by omega) (by omega) (by omega) kk (fun E hE h3 H1 locs1 ce q9 => kx E hE h3 H1 locs1 LS ce q9 hl (by omega) (by omega))
theorem zs_callI (hx : p.tables.exec = Jvm.exec) (hb : c.code = cc) (hml : c.maxLocals = nL) (hts : ∀ w ∈ lw_tbl, goodWord w = true → w.before args s = true) (hown : s.vm.findClass own = some mm.cls) (hK : zK Z s) (hX : zS Z s s.heap)
    (hd : decode cc pc = .ok (.invokespecial idx, 3)) (hbs : b ≤ st.length) (hb1 : 1 ≤ b) (hrest : zsz (st.drop b) ≤ 8) {p0 : Nat} (hlast : (st.take b).getLast? = some (.ref p0))
    (hlink : Cond.methodLink own idx qa.y ∈ zTs ∨ (own, idx, qa.y) ∈ zNests) (w2 : Cond.instanceMethod qa.y ∈ zTs) (w4 : Cond.initialized qa.y.cls ∈ zTs) (w5 : zcode qa ∈ zTs) (hh0 : qa.h = []) (hr0 : qa.r = none) (hini : qa.y.name = "<init>") (hn21 : qa.n ≤ 21) (hnar : znar qa.y = some (b - 1)) (hmh : zmh qa.y = true)
    {v : Option Value} (hC : zCt l Z d qa (st.take b).reverse f m (.inl v) f' m') (hR : d + 1 + 6 ≤ R.frames ∧ 40 * (d + 1) + 200 ≤ R.locals) (hRc : m'.2.1 ≤ K0 + R.cells) (hRs : m'.2.2 ≤ S0 + R.slots)
    (kk : zG p l e R s mm args below meth c Q Z nL K0 S0 (pc + 3) ls (v.toList ++ st.drop b) f' m') :
    zG p l e R s mm args below meth c Q Z nL K0 S0 pc ls st f m := by
  intro H locs LS hl hh hs h1 h2
  obtain ⟨c1, c2, hM⟩ := hC
  obtain ⟨vs, hvs⟩ := z_args1 hlast
  have hts' := zTs_of hts
  have hcode : zwsq qa = Cond.code qa.y qa.c qa.n none :: zTs := by simp [zwsq, zcode, hh0, hr0]
  have hgood := zgood_in w5
  simp only [zmh, Bool.and_eq_true, decide_eq_true_eq] at hmh
  have hargs := z_args (Z := Z) hbs
  rw [hvs, List.map_cons] at hargs
  have hpre := zPc_at (vs := (st.take b).reverse) hK hX hs hh
  rw [hvs] at hpre
  rw [hvs] at hM
  have hM' := zMet_of hM (fun E st t h => by obtain ⟨e9, h9, -⟩ := h; cases h9)
  have hlen : (vs.map (zcv Z)).length = b - 1 := by
    have := congrArg List.length hvs
    simp at this
    rw [List.length_map]
    omega
  rw [hargs]
  have hRR : (zrm d (m'.2.1 - m.2.1) (m'.2.2 - m.2.2)).frames + 1 ≤ R.frames ∧ 8 + (qa.n + 11) + (zrm d (m'.2.1 - m.2.1) (m'.2.2 - m.2.2)).locals ≤ R.locals := ⟨by simp only [zrm]; omega, by simp only [zrm]; omega⟩
  rcases hlink with w1 | w1
  · have cb : CallB R s args own idx qa.y qa.c qa.n none (zwsq qa) (zrm d (m'.2.1 - m.2.1) (m'.2.2 - m.2.2)) (m'.2.1 - m.2.1) (m'.2.2 - m.2.2) (b - 1) :=
      callB_of (b - 1) hts' hgood hcode rfl rfl (hts' _ w4) (hts' _ w1) ⟨hmh.1, hmh.2, hnar⟩ hRR
    exact zs_backI (K0 := K0) (S0 := S0) (ls := ls) (o := .inl v) (va_runI (As := vs.map (zcv Z)) ⟨hx, hb, hml, hown, hts'⟩ hM' ⟨cb, hini, hts' _ w2⟩ ⟨zPc_blind _ _ _ _, hpre⟩ rfl hlen (by rw [hl.2.1]) (by rw [List.reverse_cons, List.append_assoc]; rfl) (lv_room (zcats hrest)) hd ⟨by omega, by omega⟩) hl hs (by omega) (by omega) (by omega) (by omega) (fun v9 h9 => by cases h9; exact kk)
  · have cb : va_CN R s args own idx qa.y "PatternFinder" qa.c qa.n none (zwsq qa) (zrm d (m'.2.1 - m.2.1) (m'.2.2 - m.2.2)) (m'.2.1 - m.2.1) (m'.2.2 - m.2.2) (b - 1) :=
      va_cnB (b - 1) hts' hgood hcode rfl rfl (hK.2.2.2.1 _ w1) (hts' _ w4) ⟨hmh.1, hmh.2, hnar⟩ hRR
    exact zs_backI (K0 := K0) (S0 := S0) (ls := ls) (o := .inl v) (va_runIN (As := vs.map (zcv Z)) ⟨hx, hb, hml, hown, hts'⟩ hM' ⟨cb, hini, hts' _ w2⟩ ⟨zPc_blind _ _ _ _, hpre⟩ rfl hlen (by rw [hl.2.1]) (by rw [List.reverse_cons, List.append_assoc]; rfl) (lv_room (zcats hrest)) hd ⟨by omega, by omega⟩) hl hs (by omega) (by omega) (by omega) (by omega) (fun v9 h9 => by cases h9; exact kk)
end calls
/-- a handler takes what was thrown -/
theorem zs_catch {own : String} (hx : p.tables.exec = Jvm.exec) (hb : c.code = cc) (hts : ∀ w ∈ lw_tbl, goodWord w = true → w.before args s = true) (hown : s.vm.findClass own = some mm.cls) (hK : zK Z s) {wl : List Cond} (hwl : zGood wl) {E pc : Nat} (hE : E < 3) {ls rest : List Value} {f' : zF} {m' : zM} :
    ∀ (hh : List (Nat × Nat × Nat × Nat)) (hz : zH) (pre : List ExceptionTableEntry), zhok own cc wl nL hh hz = true → c.exceptionTable.toList = pre ++ tableOf hh →
      (∀ z ∈ pre, covers z pc = false ∨ (z.catchType ≠ 0 ∧ ∃ nm : String, (Cond.classLink own z.catchType nm).before args s = true ∧ va_Nc (zexn E) nm s)) →
      (∀ t k, zfh hz pc E = some (t, k) → zG p l e R s mm args below meth c Q Z nL K0 S0 t (zset ls k .null) [] f' m' → ∀ (H1 : Heap) (locs1 : List Loc) (LS : Array Slot) (ce : Cell) (q9 : Addr), zL Z nL ls LS → K0 ≤ m'.2.1 → S0 ≤ m'.2.2 → zHR Z f' m' H1 → va_S (zA Z) s.heap H1 locs1 → H1[q9]? = some ce → ce.vm = .none → s.vm.findClass (zexn E) = some ce.cls → vx_W p l e R s mm args below meth c H1 locs1 (m'.2.1 - K0) (m'.2.2 - S0) Q (F0 mm pc LS rest) q9) ∧
      (zfh hz pc E = none → ∀ z ∈ c.exceptionTable.toList, covers z pc = false ∨ (z.catchType ≠ 0 ∧ ∃ nm : String, (Cond.classLink own z.catchType nm).before args s = true ∧ va_Nc (zexn E) nm s)) := by
  intro hh
  induction hh with
  | nil =>
    intro hz pre hok htab hpre
    cases hz with
    | nil =>
      refine ⟨fun t k h => (by cases h), fun _ z hz => hpre z ?_⟩
      rw [htab] at hz
      simpa [tableOf] using hz
    | cons x r => cases hok
  | cons x r ih =>
    intro hz pre hok htab hpre
    obtain ⟨s0, e0, h0, ct⟩ := x
    cases hz with
    | nil => cases hok
    | cons y r' =>
      obtain ⟨s', e', E', t', k'⟩ := y
      simp only [zhok, Bool.and_eq_true, decide_eq_true_eq] at hok
      obtain ⟨⟨⟨⟨⟨⟨⟨rfl, rfl⟩, hct⟩, hE'⟩, hw⟩, hk⟩, hst⟩, hrest⟩ := hok
      have hlink := hts _ (hwl _ hw).1 (hwl _ hw).2
      have htab' : c.exceptionTable.toList = pre ++ ⟨s0, e0, h0, ct⟩ :: tableOf r := htab
      by_cases hc : s0 ≤ pc ∧ pc < e0 ∧ E' = E
      · obtain ⟨g1, g2, rfl⟩ := hc
        refine ⟨fun t k h kk H1 locs1 LS ce q9 hl a1 a2 hh hs hce hcv hcl => ?_, fun h => ?_⟩
        · rw [zfh, if_pos ⟨g1, g2, rfl⟩] at h
          cases h
          have hcast : (Cond.castable (zexn E') (zexn E')).before args s = true := va_Nw.use rfl (hK.2.2.2.2.2.2.2.1 E' hE)
          refine vx_catch hown pre ⟨s0, e0, h0, ct⟩ (tableOf r) htab' hpre (by simp [covers, g1, g2]) hct hlink hcast hce hcv hcl ?_
          have fin : ∀ LS1 : Array Slot, lv_has LS1 nL ((k', Value.ref q9) :: (zalo Z ls).filter (fun q => !(q.1 == k') && !(q.1 + 1 == k' && q.2.category == 2))) → W p l e R s mm args below meth c H1 locs1 (m'.2.1 - K0) (m'.2.2 - S0) Q (F0 mm t' LS1 []) := fun LS1 hl1 =>
            kk H1 locs1 LS1 (zL.set1 hl.1 hk (fun h => absurd rfl h) hl1) hh hs a1 a2
          rw [Bool.or_eq_true] at hst
          rcases hst with hst | hst
          · rw [Bool.and_eq_true, decide_eq_true_eq] at hst
            obtain ⟨q1, rfl⟩ := hst
            match k', hk, q1, fin with
            | 0, hk, q1, fin => exact lv_astore_n (lv := zalo Z ls) (k := 0) hx hb (of_decide_eq_true q1) rfl hl.has hk rfl fin
            | 1, hk, q1, fin => exact lv_astore_n (lv := zalo Z ls) (k := 1) hx hb (of_decide_eq_true q1) rfl hl.has hk rfl fin
            | 2, hk, q1, fin => exact lv_astore_n (lv := zalo Z ls) (k := 2) hx hb (of_decide_eq_true q1) rfl hl.has hk rfl fin
            | 3, hk, q1, fin => exact lv_astore_n (lv := zalo Z ls) (k := 3) hx hb (of_decide_eq_true q1) rfl hl.has hk rfl fin
            | n + 4, hk, q1, fin => cases q1
          · simp only [Bool.and_eq_true, decide_eq_true_eq] at hst
            obtain ⟨q1, rfl⟩ := hst
            exact lv_astore (lv := zalo Z ls) hx hb q1 hl.has hk rfl fin
        · rw [zfh, if_pos ⟨g1, g2, rfl⟩] at h; cases h
      · have hpre' : ∀ z ∈ pre ++ [⟨s0, e0, h0, ct⟩], covers z pc = false ∨ (z.catchType ≠ 0 ∧ ∃ nm : String, (Cond.classLink own z.catchType nm).before args s = true ∧ va_Nc (zexn E) nm s) := by
          intro z hz
          rcases List.mem_append.mp hz with hz | hz
          · exact hpre z hz
          · simp only [List.mem_cons, List.not_mem_nil, or_false] at hz
            subst hz
            by_cases hcv : s0 ≤ pc ∧ pc < e0
            · refine Or.inr ⟨hct, zexn E', hlink, hK.2.1 E E' hE hE' (fun q => hc ⟨hcv.1, hcv.2, q.symm⟩)⟩
            · left
              simp only [covers]
              by_cases h9 : s0 ≤ pc
              · have : ¬ pc < e0 := fun q => hcv ⟨h9, q⟩
                simp [this]
              · simp [h9]
        have := ih r' (pre ++ [⟨s0, e0, h0, ct⟩]) hrest (by rw [htab', List.append_assoc]; rfl) hpre'
        rw [zfh, if_neg hc]
        exact this
end ZS
