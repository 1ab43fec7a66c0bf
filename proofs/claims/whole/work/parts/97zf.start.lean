/-! THE CLAIM OUT OF ONE WALK OF THE LAW'S BODY. Your part is whole_start (and what it stands on); all else here is the same for every law, but numbers. -/
def R_law : String := "PatternFinderLaw"
def lw_P (b : Addr) (xs : List Int32) (args : Array Value) (s : State) : Prop := args = #[.ref b] ∧ s.IntsAt b xs ∧ xs.length ≤ 2048 ∧ (Jvm.Cond.and given_1 narrow_1).before args s = true
/-- what a walk over the start with the record d0 says of its end, said of the start itself -/
theorem lw_closed {s t : State} {o : Outcome} {d0 : Drawn} {L : List Loc} {k n : Nat} (hd0 : s.drawn.sameBut d0 lw_cs) (hv : ∃ v, o = .returned v) (hW : (s.setDrawn d0).WarmedH t.vm) (hs : (s.setDrawn d0).sameButNew ({ t with vm := s.vm } : State) L k n) : State.butDraws s t lw_cs (fun t1 => Framed s o t1 L k n) := by
  have h2 : t.drawn = d0 := congrArg State.drawn hs.1
  refine ⟨⟨hv, hW, State.sameButNew.setDrawn hs s.drawn⟩, ?_, by decide⟩
  rw [h2]
  exact hd0
def lw_Q (_ : Array Value) (s : State) (o : Outcome) (t : State) : Prop := o = .returned (some (.int 1)) ∧ State.butDraws s t lw_cs (fun t1 => Framed s o t1 [] 601024 7293034)
def lw_Z (below : List Frame) (a : Array Value) (s : State) : State → Prop := fun t => ∃ o, t.status = .running ∧ Ended t below o ∧ lw_Q a s o t
/-- the law's own end, with 1 on the stack, nothing written that was there before, its room as the claim has it; d0: the record of draws at this point (at the entry s.drawn: begin with 'refine W.base ?_' and 'have hd0 := Drawn.sameBut.refl s.drawn lw_cs') -/
theorem lw_ret {p : Program} {l : Launch} {e : Env} {s : State} {m : MethodId} {below : List Frame} {meth : Method} {c : Code} {b : Nat} {d0 : Drawn} (hd0 : s.drawn.sameBut d0 lw_cs) (hx : p.tables.exec = Jvm.exec) (hb : c.code = code) (hr : meth.sig.returnType = ret) (hlocks : meth.locks = false) {pc : Nat} {H : Heap} {ls : Array Slot} (hdg : decode code pc = .ok (.ireturn, 1)) : W p l e room_1 (s.setDrawn d0) m #[Value.ref b] below meth c H [] 601024 7293034 (lw_Z below #[Value.ref b] s) (F0 m pc ls [.int 1]) := by
  intro T hT X
  obtain ⟨fs, hret, hrun, hended, hW, hframe⟩ := X.leave (v := some (.int 1)) (hlocks := hlocks) (fun h => by rw [hr] at h; cases h)
  have hmeth' : T.vm.method? m = some meth := X.method'
  refine ⟨T.setFrames fs, ?_, .returned (some (.int 1)), hrun, hended, rfl, lw_closed hd0 ⟨_, rfl⟩ hW hframe⟩
  jvm_step X.here [X.here.top, hx, hb, hdg, hmeth', hr, ret, narrow_b1]
  (try refine ⟨rfl, ?_⟩); (try refine ⟨rfl, ?_⟩)
  first | (intro acts; rw [hret _ acts rfl rfl rfl]) | rw [hret _ _ rfl rfl rfl]
  exact Steps.refl _
/-- what holds at the law's entry: the machine, the code, the tables' words (any of lw_tbl by 'hts w (by decide +kernel)'), the script of L ints xs at the cell b, what the Statement gives of the start (any of its parts by flat_of_before) -/
def lw_At (p : Program) (s : State) (m : MethodId) (meth : Method) (c : Code) (b L : Nat) (xs : Nat → Int32) : Prop :=
  p.tables.exec = Jvm.exec ∧ c.code = code ∧ meth.sig.returnType = ret ∧ c.maxLocals = 9 ∧ s.vm.findClass R_law = some m.cls ∧ (∀ w ∈ lw_tbl, w.before #[Value.ref b] s = true) ∧ va_X b L xs s s.heap ∧ b < s.heap.size ∧ meth.locks = false ∧ (Jvm.Cond.and given_1 narrow_1).before #[Value.ref b] s = true ∧ c.exceptionTable.toList = []

/-- only ireturn ends with an int -/
theorem zstp_int {call : Nat → List Value → zF → zM → zR} {rt : Option FieldType} {hx : zH} {i : zI} {ls st : List Value} {f f' : zF} {m m' : zM} {x : Int32} (h : zstp call rt hx i ls st f m = some (.inr (.inl (some (.int x)), f', m'))) : i.2.1 = .ireturn ∧ st = [.int x] ∧ f = f' ∧ m = m' := by
  obtain ⟨pc, ins, len, a, b, c⟩ := i
  cases ins with
  | ireturn =>
    unfold zstp at h
    dsimp only at h
    split at h
    · split at h
      · cases h; exact ⟨rfl, rfl, rfl, rfl⟩
      · cases h
    · cases h
  | invokevirtual k1 =>
    unfold zstp at h
    dsimp only at h
    unfold zinv znx at h
    repeat' split at h
    all_goals cases h
  | invokestatic k1 =>
    change zinv call hx pc 3 ls st f m a b = _ at h
    unfold zinv znx at h
    repeat' split at h
    all_goals cases h
  | invokespecial k1 =>
    unfold zstp at h
    dsimp only at h
    unfold zinvI znx at h
    repeat' split at h
    all_goals cases h
  | new k1 =>
    unfold zstp at h
    dsimp only at h
    unfold znew znx at h
    repeat' split at h
    all_goals cases h
  | tableswitch d1 lo hi5 offs =>
    change zsw pc ls st f m d1 lo hi5 offs = _ at h
    unfold zsw zjp at h
    repeat' split at h
    all_goals cases h
  | _ =>
    unfold zstp at h
    dsimp only at h
    first
      | cases h
      | (unfold znx at h; cases h)
      | (unfold zldi znx at h; repeat' split at h
         all_goals cases h)
      | (unfold zldl znx at h; repeat' split at h
         all_goals cases h)
      | (unfold zldd znx at h; repeat' split at h
         all_goals cases h)
      | (unfold zlda znx at h; repeat' split at h
         all_goals cases h)
      | (unfold zsti znx at h; repeat' split at h
         all_goals cases h)
      | (unfold zstl znx at h; repeat' split at h
         all_goals cases h)
      | (unfold zstd znx at h; repeat' split at h
         all_goals cases h)
      | (unfold zsta znx at h; repeat' split at h
         all_goals cases h)
      | (unfold zi2 znx at h; repeat' split at h
         all_goals cases h)
      | (unfold zl2 znx at h; repeat' split at h
         all_goals cases h)
      | (unfold zls znx at h; repeat' split at h
         all_goals cases h)
      | (unfold zif at h; repeat' split at h
         all_goals cases h)
      | (unfold zic at h; repeat' split at h
         all_goals cases h)
      | (unfold zjp at h; repeat' split at h
         all_goals cases h)
      | (unfold zgf znx at h; repeat' split at h
         all_goals cases h)
      | (unfold zpf znx at h; repeat' split at h
         all_goals cases h)
      | (unfold zai znx at h; repeat' split at h
         all_goals cases h)
      | (unfold zali znx at h; repeat' split at h
         all_goals cases h)
      | (unfold zall znx at h; repeat' split at h
         all_goals cases h)
      | (unfold zald znx at h; repeat' split at h
         all_goals cases h)
      | (unfold zala znx at h; repeat' split at h
         all_goals cases h)
      | (unfold zasi znx at h; repeat' split at h
         all_goals cases h)
      | (unfold zasl znx at h; repeat' split at h
         all_goals cases h)
      | (unfold zasd znx at h; repeat' split at h
         all_goals cases h)
      | (unfold zasa znx at h; repeat' split at h
         all_goals cases h)
      | (unfold zal znx at h; repeat' split at h
         all_goals cases h)
      | (unfold znwa znx at h; repeat' split at h
         all_goals cases h)
      | (unfold znqa znx at h; repeat' split at h
         all_goals cases h)
      | (unfold znma znx at h; repeat' split at h
         all_goals cases h)
      | (unfold znx at h; repeat' split at h
         all_goals cases h)
      | (repeat' split at h
         all_goals cases h)

/-- the heap at the law's start, seen by the interpreter: the script alone -/
def zf0 (L : Nat) (xs : Nat → Int32) : zF := fun i => if i = 0 then some (.inl (8, (L, .inl xs))) else none
/-- WHAT IS LEFT OF THE CLAIM: the interpreter answers 1 on the law, within the room -/
def zLawOK : Prop := ∀ (L : Nat) (xs : Nat → Int32), L ≤ 2048 → ∃ d f' m', d ≤ 1500 ∧ zex zTb d zqL_law 0 (zent [.ref 0] 9) [] (zf0 L xs) (some 1, 0, 0) = some (.inl (some (.int 1)), f', m') ∧ m'.2.1 ≤ 601024 ∧ m'.2.2 ≤ 7293034
theorem zstart_D {s : State} {args : Array Value} (hts : ∀ w ∈ lw_tbl, w.before args s = true) : ∃ D : va_G, ∀ (k : Nat) (q : vw_C), vwCl[k]? = some q → u_Kn s q.1 q.2.1 q.2.2 (D.1 k) (D.2 k) := by
  have hin : ∀ (k : Nat) (q : vw_C), vwCl[k]? = some q → Cond.instantiable q.1 q.2.2 ∈ lw_tbl := by
    intro k q h
    match k, h with
    | 0, h => cases h; decide +kernel
    | 1, h => cases h; decide +kernel
    | 2, h => cases h; decide +kernel
    | 3, h => cases h; decide +kernel
    | 4, h => cases h; decide +kernel
    | 5, h => cases h; decide +kernel
    | 6, h => cases h; decide +kernel
    | 7, h => cases h; decide +kernel
    | 8, h => cases h; decide +kernel
    | 9, h => cases h; decide +kernel
    | n + 10, h => simp [vwCl] at h
  have h : ∀ k : Nat, ∃ x : ClassId × (Nat → Nat), ∀ q : vw_C, vwCl[k]? = some q → u_Kn s q.1 q.2.1 q.2.2 x.1 x.2 := by
    intro k
    cases hk : vwCl[k]? with
    | none => exact ⟨(0, fun _ => 0), fun q hq => by cases hq⟩
    | some q =>
      obtain ⟨c0, i0, h0⟩ := u_known (C := q.1) (T := q.2.1) (N := q.2.2) (n := q.2.2) hts (fun w hw => ((zcl_ok k q hk).1 w hw).1) (hts _ (hin k q hk))
      exact ⟨(c0, i0), fun q' hq => by cases hq; exact h0⟩
  obtain ⟨F, hF⟩ := Classical.axiomOfChoice h
  exact ⟨(fun k => (F k).1, fun k => (F k).2), fun k q hq => hF k q hq⟩
theorem zstart_cy {s : State} {args : Array Value} (hts : ∀ w ∈ lw_tbl, w.before args s = true) (h3 : (Cond.arrayOver (.object "PatternFinder$Pattern")).before args s = true ∧ (Cond.arrayOver (.array .int)).before args s = true ∧ (Cond.arrayOver (.array .long)).before args s = true) : ∃ cy : Nat → ClassId, ∀ t, t < 8 → ArrOfT s (cy t) (zty t) ∧ va_RA s (cy t) (zty t) := by
  have prim : ∀ ty : FieldType, (∀ C, ty ≠ .object C) → Cond.arrayClass ty ∈ lw_tbl → ∃ cA, ArrOfT s cA ty ∧ va_RA s cA ty := by
    intro ty hne hw
    obtain ⟨c0, k0, comp, h1, h2, h3⟩ := Cond.arrayClass_spec (hts _ hw)
    refine ⟨c0, fun n z => ⟨fun k h => (by cases h), k0, h2, comp, h3⟩, ?_⟩
    cases ty with
    | object C => exact absurd rfl (hne C)
    | _ => exact h1
  have h : ∀ t : Nat, ∃ cA : ClassId, t < 8 → ArrOfT s cA (zty t) ∧ va_RA s cA (zty t) := by
    intro t
    match t with
    | 0 => obtain ⟨c0, h0⟩ := prim .int (fun _ h => by cases h) (by decide +kernel); exact ⟨c0, fun _ => h0⟩
    | 1 => obtain ⟨c0, h0⟩ := prim .long (fun _ h => by cases h) (by decide +kernel); exact ⟨c0, fun _ => h0⟩
    | 2 => obtain ⟨c0, h0⟩ := prim .boolean (fun _ h => by cases h) (by decide +kernel); exact ⟨c0, fun _ => h0⟩
    | 3 => obtain ⟨c0, h0⟩ := prim .char (fun _ h => by cases h) (by decide +kernel); exact ⟨c0, fun _ => h0⟩
    | 4 => obtain ⟨c0, h0⟩ := prim .double (fun _ h => by cases h) (by decide +kernel); exact ⟨c0, fun _ => h0⟩
    | 5 =>
      obtain ⟨comp, c0, k0, h1, -, h2, h4, h5⟩ := Cond.arrayOver_spec h3.1
      exact ⟨c0, fun _ => ⟨fun n z => ⟨fun k h => (by cases h), k0, h2, comp, h4⟩, k0, comp, h2, h4, h1, h5⟩⟩
    | 6 =>
      obtain ⟨comp, c0, k0, h1, h2, h4, h5⟩ := Cond.arrayOver_specA h3.2.1
      exact ⟨c0, fun _ => ⟨fun n z => ⟨fun k h => (by cases h), k0, h2, comp, h4⟩, h5⟩⟩
    | 7 =>
      obtain ⟨comp, c0, k0, h1, h2, h4, h5⟩ := Cond.arrayOver_specA h3.2.2
      exact ⟨c0, fun _ => ⟨fun n z => ⟨fun k h => (by cases h), k0, h2, comp, h4⟩, h5⟩⟩
    | n + 8 => exact ⟨0, fun h => absurd h (by omega)⟩
  obtain ⟨F, hF⟩ := Classical.axiomOfChoice h
  exact ⟨F, hF⟩
set_option maxRecDepth 100000 in
set_option maxHeartbeats 4000000 in
/-- YOUR PART: from the entry, for every script of at most 2048 ints, the law comes to its end with true -/
theorem whole_start_open (hok : zLawOK) {p : Program} {e : Env} {s : State} {m : MethodId} {below : List Frame} {meth : Method} {c : Code} (l : Launch) (hflags : l.flags = flags0) {b L : Nat} {xs : Nat → Int32} (hL : L ≤ 2048) (C0 : lw_At p s m meth c b L xs) : W p l e room_1 s m #[Value.ref b] below meth c s.heap [] 0 0 (lw_Z below #[Value.ref b] s) (entryFrame m ([Value.ref b] : List Value).toArray 9) := by
  obtain ⟨hx, hb, hr, hml, hown, hts, hX, hbl, hlocks, hgv, htab⟩ := C0
  have hflat := flat_of_before _ hgv
  have hst : l.stackTraces = false := by
    unfold Launch.stackTraces
    rw [hflags]
    decide +kernel
  obtain ⟨D, hD⟩ := zstart_D hts
  have h3 : (Cond.arrayOver (.object "PatternFinder$Pattern")).before #[Value.ref b] s = true ∧ (Cond.arrayOver (.array .int)).before #[Value.ref b] s = true ∧ (Cond.arrayOver (.array .long)).before #[Value.ref b] s = true := ⟨hts _ (by decide +kernel), hts _ (by decide +kernel), hts _ (by decide +kernel)⟩
  obtain ⟨cy, hcy⟩ := zstart_cy hts h3
  have hNc : ∀ E E', E < 3 → E' < 3 → E ≠ E' → va_Nc (zexn E) (zexn E') s := by
    intro E E' h1 h2 h9
    have key : ∀ e1, e1 < 3 → ∀ e2, e2 < 3 → e1 ≠ e2 → Cond.not (.castable (zexn e1) (zexn e2)) ∈ flatC (Jvm.Cond.and given_1 narrow_1) := by decide +kernel
    exact va_Nc.of (hflat _ (key E h1 E' h2 h9))
  have hstr : ∀ q ∈ zStrs, ∃ a, vk_R "PatternFinder" q.1 q.2 a s := by
    intro q hq
    have k1 : ∀ q ∈ zStrs, Cond.stringRef "PatternFinder" q.1 q.2 ∈ lw_tbl := by decide +kernel
    have k2 : ∀ q ∈ zStrs, Cond.exactly (.string "PatternFinder" q.1) "java/lang/String" ∈ flatC (Jvm.Cond.and given_1 narrow_1) := by decide +kernel
    obtain ⟨a, -, -, -, he, -⟩ := Cond.exactly_spec (hflat _ (k2 q hq))
    exact ⟨a, vk_R.of (hts _ (k1 q hq)) he⟩
  have hnest : ∀ q ∈ zNests, va_Nw (.methodLinkNest q.1 q.2.1 q.2.2 "PatternFinder") s := by
    intro q hq
    have k1 : ∀ q ∈ zNests, Cond.methodLinkNest q.1 q.2.1 q.2.2 "PatternFinder" ∈ lw_tbl := by decide +kernel
    exact va_Nw.of rfl (hts _ (k1 q hq))
  have hcast : ∀ e, e < 3 → va_Nw (.castable (zexn e) (zexn e)) s := by
    intro e he
    have k1 : ∀ e, e < 3 → Cond.castable (zexn e) (zexn e) ∈ lw_tbl := by decide +kernel
    exact va_Nw.of rfl (hts _ (k1 e he))
  have hdecl : ∀ Y ∈ zdcl, va_Nw (.declares ⟨Y, "<init>", "(Ljava/lang/String;)V"⟩) s := by
    intro Y hY
    have k1 : ∀ Y ∈ zdcl, Cond.declares ⟨Y, "<init>", "(Ljava/lang/String;)V"⟩ ∈ lw_tbl := by decide +kernel
    exact va_Nw.of rfl (hts _ (k1 Y hY))
  let Z : zZ := (D, cy, b, s.heap.size, L, xs)
  have hK : zK Z s := ⟨⟨fun k q hq => hD k q hq, fun k q hq => by
      simp only [ztys, List.getElem?_map, Option.map_eq_some_iff] at hq
      obtain ⟨t, ht, rfl⟩ := hq
      have ht8 : t < 8 := List.mem_range.mp (List.mem_of_getElem? ht)
      exact hcy t ht8⟩, hNc, hstr, hnest, va_AO.of h3.1, va_AOA.of h3.2.1, va_AOA.of h3.2.2, hcast, hdecl⟩
  have hA : ∀ a : Nat, a < s.heap.size → ¬ zA Z a := fun a h => Nat.not_le.mpr h
  have hS : zS Z s s.heap := ⟨vx_Zqof (hts _ (by decide +kernel)) (hts _ (by decide +kernel)) (hflat _ (by decide +kernel)) hA, vx_Zqof (hts _ (by decide +kernel)) (hts _ (by decide +kernel)) (hflat _ (by decide +kernel)) hA, hX, hbl, Nat.le_refl _⟩
  have hHR : zHR Z (zf0 L xs) (some 1, 0, 0) s.heap := by
    refine ⟨0, fun i => ?_, fun k q hk => by simp [zws] at hk, rfl, fun i t x hi h => ?_, fun n hn => by cases hn; exact ⟨rfl, rfl⟩⟩
    · unfold zf0
      by_cases h : i = 0
      · subst h; rfl
      · rw [if_neg h]; simp; omega
    · unfold zf0 at h
      rw [if_neg (by omega)] at h
      cases h
  obtain ⟨d, f', m', hd, hex, hm1, hm2⟩ := hok L xs hL
  obtain ⟨n, hn⟩ := zlim_of hex
  obtain ⟨wl, hwl, hchk⟩ := zTb_ok zqL_law (List.mem_of_getElem? (i := 200) rfl)
  have F : zFx p l room_1 s m #[Value.ref b] meth c Z zqL_law d := ⟨hx, hb, hml, hown, fun w h _ => hts w h, hlocks, hK, hS, fun h => absurd h (by decide +kernel), htab, hst, by show d + 1 + 6 ≤ 2048; omega, by show 40 * (d + 1) + 200 ≤ 84000; omega⟩
  rw [lg_entry_eq]
  have hd0 := Drawn.sameBut.refl s.drawn lw_cs
  have IH := zsound l hst Z d
  have hw := zwalk (Q := lw_Z below #[Value.ref b] s) (e := e) (below := below) (K0 := 0) (S0 := 0) F IH hwl hchk (o := .inl (some (.int 1))) (f' := f') (m' := m') (by show m'.2.1 ≤ 0 + 601024; omega) (by show m'.2.2 ≤ 0 + 7293034; omega)
    (fun i hi ls st f1 m1 hs => by
      obtain ⟨hi1, rfl, rfl, rfl⟩ := zstp_int hs
      obtain ⟨hall, -, -⟩ := zchk_at hchk
      obtain ⟨hdec, hlen, -, -⟩ := hall i hi
      rw [hi1] at hdec hlen
      have hlen1 : i.2.2.1 = 1 := hlen (by decide)
      rw [hlen1] at hdec
      intro H locs LS hl hh hS9 h1 h2
      refine va_forget (fun q hq => hS9.2.2 q hq) ?_
      refine W.widen (k := 601024) (n := 7293034) (by omega) (by omega) ?_
      exact W.base (lw_ret hd0 hx hb hr hlocks hdec)) n 0 (zent [.ref 0] 9) [] (zf0 L xs) (some 1, 0, 0) hn
  exact hw s.heap [] _ (zent_L (Z := Z) (vs := [.ref 0]) (n := 9) (by decide)) hHR va_S.rf (Nat.le_refl _) (Nat.le_refl _)
