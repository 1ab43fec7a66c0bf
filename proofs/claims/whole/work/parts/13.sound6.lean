/-! SOUNDNESS: how a method ends; a walk; a method's contract; the law -/
section ZS
variable {p : Program} {l : Launch} {e : Env} {R : Room} {s : State} {mm : MethodId} {args : Array Value} {below : List Frame} {meth : Method} {c : Code} {Q : State → Prop} {Z : zZ} {K0 S0 : Nat} {q : zQ} {d : Nat}
theorem zs_ends {H : Heap} {locs : List Loc} {f : zF} {m : zM} {v : Option Value} (hh : zHR Z f m H) (hs : va_S (zA Z) s.heap H locs) : ∀ t : State, t.heap = H → s.WarmedH t.vm → zQc Z (.inl v) f m args s (.returned (v.map (zcv Z))) t :=
  fun t ht _ => ⟨⟨v, rfl, rfl, by rw [ht]; exact hh⟩, hs.F ht⟩
set_option maxRecDepth 20000 in
set_option maxHeartbeats 4000000 in
/-- one step that ends the method -/
theorem zfin (F : zFx p l R s mm args meth c Z q d) (hr : meth.sig.returnType = q.r) (IH : zIH l Z d) {wl : List Cond} (hwl : zGood wl) (hchk : zchk zTb wl q = true) {i : zI} (hi : i ∈ q.i) {ls st : List Value} {f : zF} {m : zM} {o : zO} {f' : zF} {m' : zM}
    (h : zstp (zrun zTb d) q.r q.x i ls st f m = some (.inr (o, f', m'))) (hRc : m'.2.1 ≤ K0 + R.cells) (hRs : m'.2.2 ≤ S0 + R.slots) :
    zG p l e R s mm args below meth c (vx_MQ below (zQc Z o f' m') (zXC Z o f' m') args s (m'.2.1 - K0) (m'.2.2 - S0) (zA Z)) Z q.n K0 S0 i.1 ls st f m := by
  obtain ⟨hx, hb, hml, hown, hts, hlocks, hK, hX, hini, htab, hst0, hR1, hR2⟩ := F
  obtain ⟨hall, -, hhok⟩ := zchk_at hchk
  obtain ⟨hdec, hlen, hneed, hstat⟩ := hall i hi
  obtain ⟨pc, ins, len, a, b, c9⟩ := i
  dsimp only at hdec hlen hneed hstat ⊢
  have hin : ∀ w ∈ zneed zTb q.y.cls (pc, ins, len, a, b, c9), w ∈ zTs := fun w hw => List.mem_filter.mpr ⟨(hwl w (hneed w hw)).1, (hwl w (hneed w hw)).2⟩
  have hwb : ∀ w ∈ zneed zTb q.y.cls (pc, ins, len, a, b, c9), w.before args s = true := fun w hw => hts w (hwl w (hneed w hw)).1 (hwl w (hneed w hw)).2
  cases ins with
  | ireturn =>
    obtain rfl : len = 1 := hlen (by simp [zlen])
    unfold zstp at h
    dsimp only at h
    split at h
    · rename_i x
      split at h
      · rename_i hok
        cases h
        intro H locs LS hl hh hs h1 h2
        cases hq : q.r with
        | none => rw [hq] at hok; cases hok
        | some t =>
          rw [hq] at hok
          have hn := (zok_ok Z (t := t) (v := .int x) hok).1
          exact vx_ret (W.zret hx hb (hr.trans hq) hn (zs_ends (v := some (.int x)) hh hs) hs.2.2 hdec hlocks)
      · cases h
    · cases h
  | lreturn =>
    obtain rfl : len = 1 := hlen (by simp [zlen])
    unfold zstp at h
    dsimp only at h
    split at h
    · rename_i x
      split at h
      · rename_i hok
        cases h
        intro H locs LS hl hh hs h1 h2
        have hq : q.r = some .long := by
          cases hq : q.r with
          | none => rw [hq] at hok; cases hok
          | some t => rw [hq] at hok; cases t <;> first | rfl | cases hok
        exact vx_ret (W.lret hx hb (hr.trans hq) (zs_ends (v := some (.long x)) hh hs) hs.2.2 hdec hlocks)
      · cases h
    · cases h
  | dreturn =>
    obtain rfl : len = 1 := hlen (by simp [zlen])
    unfold zstp at h
    dsimp only at h
    split at h
    · rename_i x
      split at h
      · rename_i hok
        cases h
        intro H locs LS hl hh hs h1 h2
        have hq : q.r = some .double := by
          cases hq : q.r with
          | none => rw [hq] at hok; cases hok
          | some t => rw [hq] at hok; cases t <;> first | rfl | cases hok
        exact vx_ret (W.dret hx hb (hr.trans hq) (zs_ends (v := some (.double x)) hh hs) hs.2.2 hdec hlocks)
      · cases h
    · cases h
  | areturn =>
    obtain rfl : len = 1 := hlen (by simp [zlen])
    unfold zstp at h
    dsimp only at h
    split at h
    · rename_i x
      split at h
      · rename_i hok
        cases h
        intro H locs LS hl hh hs h1 h2
        have hq : ∃ t, q.r = some t ∧ ((∃ n, t = .object n) ∨ ∃ t', t = .array t') := by
          cases hq : q.r with
          | none => rw [hq] at hok; cases hok
          | some t => rw [hq] at hok; cases t <;> first | exact ⟨_, rfl, Or.inl ⟨_, rfl⟩⟩ | exact ⟨_, rfl, Or.inr ⟨_, rfl⟩⟩ | cases hok
        obtain ⟨t, hq, ht⟩ := hq
        exact vx_ret (W.aret hx hb (hr.trans hq) ht (Or.inr ⟨_, rfl⟩) (zs_ends (v := some (.ref x)) hh hs) hs.2.2 hdec hlocks)
      · cases h
    · cases h
  | return_ =>
    obtain rfl : len = 1 := hlen (by simp [zlen])
    unfold zstp at h
    dsimp only at h
    split at h
    · split at h
      · rename_i hok
        cases h
        intro H locs LS hl hh hs h1 h2
        have hq : q.r = none := by
          cases hq : q.r with
          | none => rfl
          | some t => rw [hq] at hok; cases hok
        exact vx_ret (W.vret hx hb (hr.trans hq) (zs_ends (v := none) hh hs) hs.2.2 hdec hlocks)
      · cases h
    · cases h
  | new k1 =>
    obtain rfl : len = 3 := hlen (by simp [zlen])
    unfold zstp at h
    dsimp only at h
    by_cases h0 : b = 0
    · rw [if_pos h0] at h
      unfold znew znx at h
      repeat' split at h
      all_goals cases h
    · rw [if_neg h0] at h
      obtain ⟨mo, k5, n5⟩ := m
      dsimp only at h
      split at h
      · rename_i h4
        cases h
        simp only [zstat, if_neg h0, Bool.and_eq_true, decide_eq_true_eq] at hstat
        obtain ⟨⟨⟨⟨⟨⟨⟨⟨hcls, hh0⟩, ha3⟩, hats⟩, hstr⟩, d3⟩, d4⟩, d6⟩, d9⟩ := hstat
        intro H locs LS hl hh hs h1 h2
        dsimp only at h1 h2 hRc hRs ⊢
        have hown' : s.vm.findClass RX9 = some mm.cls := by rw [show RX9 = q.y.cls from hcls.symm]; exact hown
        obtain ⟨sx, hsx, hse⟩ := List.mem_map.mp hstr
        obtain ⟨sa, hsa⟩ := hK.2.2.1 sx hsx
        rw [hse] at hsa
        have hat := zats_ok (c9, a) hats
        have hbad : ∀ w ∈ zbadl a, w.onTables = true ∧ w.before args s = true := by
          intro w hw
          rcases List.mem_cons.mp hw with rfl | hw
          · exact ⟨rfl, va_Nw.use rfl (hK.2.2.2.2.2.2.2.1 a ha3)⟩
          · obtain ⟨Y, hY, rfl⟩ := List.mem_map.mp hw
            exact ⟨rfl, va_Nw.use rfl (hK.2.2.2.2.2.2.2.2 Y hY)⟩
        have hkk : (Cond.classLink RX9 k1 (zexn a)).before args s = true := by
          have := hwb (.classLink q.y.cls k1 (zexn a)) (by simp [zneed, h0])
          rw [show RX9 = q.y.cls from hcls.symm]
          exact this
        have hii : (Cond.initialized (zexn a)).before args s = true := hwb _ (by simp [zneed, h0])
        have hfit : Bundle.fit (zexn a) = true := by
          rcases (show a = 0 ∨ a = 1 ∨ a = 2 by omega) with rfl | rfl | rfl <;> decide +kernel
        refine vx_throwS hx hb hst0 (names := znam) (ik := k1) (is := b - 1) (ic := c9) (sa := sa) (A := zA Z) hown' hfit (by decide +kernel) hkk hii hsa (fun w hw => (hat w hw).elim (fun h9 => hts w h9.1 h9.2) (fun h9 => (hbad w h9).2)) ?_ hX.1 hX.2.1 hs (by rw [hml]; exact hl.2.1) hdec d3 d4 d6 d9 (fun x hx9 => ?_) ?_ ?_ (by omega) (by omega) hlocks
          (fun t hal hz hq9 => ⟨a, rfl, ha3, rfl, (hh.any (k := _) (n := _)).kept rfl hq9, ⟨Nat.le_trans hs.1 hz, fun q9 g1 g2 => (hq9 q9 (Nat.lt_of_lt_of_le g1 hs.1)).trans (hs.2.1 q9 g1 g2)⟩⟩) hs.2.2 (by omega) (by omega)
        · intro w hw
          rcases List.mem_cons.mp hw with rfl | hw
          · rfl
          · rcases List.mem_cons.mp hw with rfl | hw
            · rfl
            · unfold vx_ot
              rcases hat w hw with h9 | h9
              · rw [h9.2, Bool.or_true]
              · rw [(hbad w h9).1, Bool.true_or]
        · rw [htab, hh0] at hx9; cases hx9
        · simp only [znam, List.length_cons, List.length_nil]; omega
        · have := zcats (Z := Z) h4
          simp only [znam, List.length_cons, List.length_nil]; omega
      · cases h
  | invokevirtual k1 =>
    obtain rfl : len = 3 := hlen (by simp [zlen])
    unfold zstp at h
    dsimp only at h
    split at h
    · rename_i hrc
      simp only [zstat] at hstat
      unfold zinv znx at h
      by_cases hbs : b ≤ st.length ∧ zsz (st.drop b) ≤ 8
      · rw [if_pos hbs] at h
        cases hr9 : zrun zTb d a (st.take b).reverse f m with
        | none => rw [hr9] at h; cases h
        | some x =>
          obtain ⟨o9, f9, m9⟩ := x
          rw [hr9] at h
          cases o9 with
          | inl v => cases h
          | inr E =>
            dsimp only at h
            split at h
            · cases h
            · rename_i hnone
              cases h
              obtain ⟨qa, hqa, hC⟩ := IH _ _ _ _ _ _ _ hr9
              rw [hqa] at hstat
              simp only [Bool.and_eq_true, decide_eq_true_eq] at hstat
              have hmem := hin
              simp only [zneed, hqa] at hmem
              obtain ⟨p0, ci, fs, hlast, hp0, rfl⟩ : ∃ p0 ci fs, (st.take b).getLast? = some (.ref p0) ∧ f p0 = some (.inr (ci, fs)) ∧ ci = c9 := by
                unfold zrc at hrc
                split at hrc
                · rename_i p0 hl0
                  split at hrc
                  · rename_i ci fs hf0
                    exact ⟨p0, ci, fs, hl0, hf0, by simpa using hrc⟩
                  · cases hrc
                · cases hrc
              obtain ⟨⟨⟨⟨⟨hb1, hnar⟩, hci⟩, hh0⟩, hn21⟩, hmh⟩ := hstat
              refine zs_callV (qa := qa) (o := .inr E) hx hb hml hts hown hK hX hdec hbs.1 hb1 hbs.2 hlast hp0 hci (hmem _ (by simp)) (hmem _ (by simp)) (hmem _ (by simp)) (hmem _ (by simp)) (hmem _ (by simp)) hh0 hn21 hnar hmh hC ⟨hR1, hR2⟩ hRc hRs ?_ ?_
              · intro v hv; cases hv
              · intro E' hE h3 H1 locs1 LS ce q9 hl g1 g2 hh hs hce hcv hcl
                cases hE
                have hcat := zs_catch (l := l) (e := e) (R := R) (below := below) (meth := meth) (Q := fun _ => True) (K0 := K0) (S0 := S0) (nL := q.n) (ls := ls) (rest := (st.drop b).map (zcv Z)) (f' := f') (m' := m') hx hb hts hown hK hwl (pc := pc) h3 q.h q.x [] hhok (by rw [htab]; rfl) (fun z hz => by cases hz)
                exact vx_outP hown hlocks (hcat.2 hnone) hce hcv hcl (fun t ht hal => ⟨E, rfl, h3, rfl, by rw [ht]; exact hh, hs.F ht⟩) hs.2.2 (Nat.le_refl _) (Nat.le_refl _)
      · rw [if_neg hbs] at h; cases h
    · cases h
  | invokestatic k1 =>
    obtain rfl : len = 3 := hlen (by simp [zlen])
    simp only [zstat] at hstat
    change zinv (zrun zTb d) q.x pc 3 ls st f m a b = some (.inr (o, f', m')) at h
    unfold zinv znx at h
    by_cases hbs : b ≤ st.length ∧ zsz (st.drop b) ≤ 8
    · rw [if_pos hbs] at h
      cases hr9 : zrun zTb d a (st.take b).reverse f m with
      | none => rw [hr9] at h; cases h
      | some x =>
        obtain ⟨o9, f9, m9⟩ := x
        rw [hr9] at h
        cases o9 with
        | inl v => cases h
        | inr E =>
          dsimp only at h
          split at h
          · cases h
          · rename_i hnone
            cases h
            obtain ⟨qa, hqa, hC⟩ := IH _ _ _ _ _ _ _ hr9
            rw [hqa] at hstat
            simp only [Bool.and_eq_true, decide_eq_true_eq] at hstat
            have hmem := hin
            simp only [zneed, hqa] at hmem
            obtain ⟨⟨hnar, hn21⟩, hmh⟩ := hstat
            refine zs_callS (qa := qa) (o := .inr E) hx hb hml hts hown hK hX hdec hbs.1 hbs.2 (hmem _ (by simp)) (hmem _ (by simp)) (hmem _ (by simp)) (hmem _ (by simp)) hn21 hnar hmh hC ⟨hR1, hR2⟩ hRc hRs ?_ ?_
            · intro v hv; cases hv
            · intro E' hE h3 H1 locs1 LS ce q9 hl g1 g2 hh hs hce hcv hcl
              cases hE
              have hcat := zs_catch (l := l) (e := e) (R := R) (below := below) (meth := meth) (Q := fun _ => True) (K0 := K0) (S0 := S0) (nL := q.n) (ls := ls) (rest := (st.drop b).map (zcv Z)) (f' := f') (m' := m') hx hb hts hown hK hwl (pc := pc) h3 q.h q.x [] hhok (by rw [htab]; rfl) (fun z hz => by cases hz)
              exact vx_outP hown hlocks (hcat.2 hnone) hce hcv hcl (fun t ht hal => ⟨E, rfl, h3, rfl, by rw [ht]; exact hh, hs.F ht⟩) hs.2.2 (Nat.le_refl _) (Nat.le_refl _)
    · rw [if_neg hbs] at h; cases h
  | invokespecial k1 =>
    unfold zstp at h
    dsimp only at h
    unfold zinvI znx at h
    repeat' split at h
    all_goals cases h
  | tableswitch d1 lo hi5 offs =>
    change zsw pc ls st f m d1 lo hi5 offs = some (.inr (o, f', m')) at h
    unfold zsw zjp at h
    repeat' split at h
    all_goals cases h
  | _ =>
    unfold zstp at h
    dsimp only at h
    first
      | cases h
      | (unfold znx at h; cases h)
      | (unfold zldi znx at h; repeat' split at h
         all_goals cases h)
      | (unfold zldl znx at h; repeat' split at h
         all_goals cases h)
      | (unfold zldd znx at h; repeat' split at h
         all_goals cases h)
      | (unfold zlda znx at h; repeat' split at h
         all_goals cases h)
      | (unfold zsti znx at h; repeat' split at h
         all_goals cases h)
      | (unfold zstl znx at h; repeat' split at h
         all_goals cases h)
      | (unfold zstd znx at h; repeat' split at h
         all_goals cases h)
      | (unfold zsta znx at h; repeat' split at h
         all_goals cases h)
      | (unfold zi2 znx at h; repeat' split at h
         all_goals cases h)
      | (unfold zl2 znx at h; repeat' split at h
         all_goals cases h)
      | (unfold zls znx at h; repeat' split at h
         all_goals cases h)
      | (unfold zif at h; repeat' split at h
         all_goals cases h)
      | (unfold zic at h; repeat' split at h
         all_goals cases h)
      | (unfold zjp at h; repeat' split at h
         all_goals cases h)
      | (unfold zgf znx at h; repeat' split at h
         all_goals cases h)
      | (unfold zpf znx at h; repeat' split at h
         all_goals cases h)
      | (unfold zai znx at h; repeat' split at h
         all_goals cases h)
      | (unfold zali znx at h; repeat' split at h
         all_goals cases h)
      | (unfold zall znx at h; repeat' split at h
         all_goals cases h)
      | (unfold zald znx at h; repeat' split at h
         all_goals cases h)
      | (unfold zala znx at h; repeat' split at h
         all_goals cases h)
      | (unfold zasi znx at h; repeat' split at h
         all_goals cases h)
      | (unfold zasl znx at h; repeat' split at h
         all_goals cases h)
      | (unfold zasd znx at h; repeat' split at h
         all_goals cases h)
      | (unfold zasa znx at h; repeat' split at h
         all_goals cases h)
      | (unfold zal znx at h; repeat' split at h
         all_goals cases h)
      | (unfold znwa znx at h; repeat' split at h
         all_goals cases h)
      | (unfold znqa znx at h; repeat' split at h
         all_goals cases h)
      | (unfold znma znx at h; repeat' split at h
         all_goals cases h)
      | (unfold znx at h; repeat' split at h
         all_goals cases h)
/-- a walk: as far as the interpreter comes, the machine comes -/
theorem zwalk (F : zFx p l R s mm args meth c Z q d) (IH : zIH l Z d) {wl : List Cond} (hwl : zGood wl) (hchk : zchk zTb wl q = true) {o : zO} {f' : zF} {m' : zM} (hRc : m'.2.1 ≤ K0 + R.cells) (hRs : m'.2.2 ≤ S0 + R.slots)
    (fin : ∀ i ∈ q.i, ∀ ls st f m, zstp (zrun zTb d) q.r q.x i ls st f m = some (.inr (o, f', m')) → zG p l e R s mm args below meth c Q Z q.n K0 S0 i.1 ls st f m) :
    ∀ (n pc : Nat) (ls st : List Value) (f : zF) (m : zM), zxf (zrun zTb d) q n pc ls st f m = some (o, f', m') → zG p l e R s mm args below meth c Q Z q.n K0 S0 pc ls st f m := by
  intro n
  induction n with
  | zero => intro pc ls st f m h; cases h
  | succ n ih =>
    intro pc ls st f m h
    rw [zxf] at h
    cases hi : zfe q.i pc with
    | none => rw [hi] at h; cases h
    | some i =>
      rw [hi] at h
      dsimp only at h
      have hmem : i ∈ q.i := List.mem_of_find?_eq_some hi
      have hpc : i.1 = pc := by simpa using List.find?_some hi
      subst hpc
      cases hs : zstp (zrun zTb d) q.r q.x i ls st f m with
      | none => rw [hs] at h; cases h
      | some r =>
        rw [hs] at h
        match r, hs, h with
        | .inr r, hs, h => cases h; exact fin i hmem ls st f m hs
        | .inl (pc', ls', st', f1, m1), hs, h =>
          have hle := zxf_le IH.le _ _ _ _ _ _ _ _ _ h
          exact zstep F IH hwl hchk hmem hs (Nat.le_trans hle.1 hRc) (Nat.le_trans hle.2 hRs) (ih _ _ _ _ _ h)
theorem zfl_len (Z : zZ) : ∀ vs : List Value, (lg_sl (vs.map (zcv Z))).length = (zfl vs).length
  | [] => rfl
  | v :: r => by
    have := zfl_len Z r
    simp only [lg_sl, List.map_cons, List.flatMap_cons, List.length_append] at this ⊢
    rw [zfl, zcv_cat]
    by_cases h : v.category = 2
    · rw [if_pos h, if_pos h]; simp [this]; omega
    · rw [if_neg h, if_neg h]; simp [this]; omega
theorem zfl_in (Z : zZ) : ∀ (vs : List Value) (k i : Nat), (zfl vs).getD i .null ≠ .null → (k + i, zcv Z ((zfl vs).getD i .null)) ∈ lv_args k (vs.map (zcv Z))
  | [], k, i, h => by simp [zfl] at h
  | v :: r, k, i, h => by
    rw [zfl] at h ⊢
    simp only [List.map_cons, lv_args, zcv_cat]
    by_cases h2 : v.category = 2
    · rw [if_pos h2] at h ⊢
      rw [if_pos h2]
      match i, h with
      | 0, h => exact List.mem_cons_self
      | 1, h => simp at h
      | i + 2, h =>
        have := zfl_in Z r (k + 2) i (by simpa using h)
        simp only [List.getD_cons_succ]
        rw [show k + (i + 2) = k + 2 + i by omega]
        exact List.mem_cons_of_mem _ this
    · rw [if_neg h2] at h ⊢
      rw [if_neg h2]
      match i, h with
      | 0, h => exact List.mem_cons_self
      | i + 1, h =>
        have := zfl_in Z r (k + 1) i (by simpa using h)
        simp only [List.getD_cons_succ]
        rw [show k + (i + 1) = k + 1 + i by omega]
        exact List.mem_cons_of_mem _ this
theorem zent_L {Z : zZ} {vs : List Value} {n : Nat} (h : (zfl vs).length ≤ n) : zL Z n (zent vs n) ((lg_sl (vs.map (zcv Z)) ++ List.replicate (n - (lg_sl (vs.map (zcv Z))).length) Slot.unset).toArray) := by
  have hl := lv_entry (vs.map (zcv Z)) (n := n) (by rw [zfl_len]; exact h)
  refine zL.of hl (by simp [zent]; omega) fun i hi hz => ?_
  have e : (zent vs n).getD i .null = (zfl vs).getD i .null := by
    unfold zent
    by_cases h9 : i < (zfl vs).length
    · simp [List.getD_eq_getElem?_getD, List.getElem?_append_left h9]
    · rw [List.getD_eq_getElem?_getD, List.getElem?_append_right (by omega), List.getElem?_replicate, List.getD_eq_getElem?_getD, List.getElem?_eq_none (by omega)]
      split <;> rfl
  rw [e] at hz ⊢
  have := zfl_in Z vs 0 i hz
  rwa [Nat.zero_add] at this
end ZS
set_option maxHeartbeats 4000000 in
/-- THE INTERPRETER IS SOUND: what it answers on a method, the machine's method does -/
theorem zsound (l : Launch) (hlt : l.stackTraces = false) (Z : zZ) : ∀ d, zIH l Z d := by
  intro d
  induction d with
  | zero => intro M vs f m o f' m' h; cases h
  | succ d IH =>
    intro M vs f m o f' m' h
    rw [zrun] at h
    cases hq : zTb[M]? with
    | none => rw [hq] at h; cases h
    | some q =>
      rw [hq] at h
      dsimp only at h
      by_cases hn : (zfl vs).length ≤ q.n
      · rw [if_pos hn] at h
        obtain ⟨n, hx⟩ := zlim_of h
        obtain ⟨wl, hwl, hchk⟩ := zTb_ok q (List.mem_of_getElem? hq)
        have hle := zxf_le IH.le _ _ _ _ _ _ _ _ _ hx
        refine ⟨q, rfl, hle.1, hle.2, ?_⟩
        obtain ⟨hall, hpl, hhok⟩ := zchk_at hchk
        have main : ∀ (p : Program) (e : Env) (s : State) (mm : MethodId) (args : Array Value) (below : List Frame) (meth : Method) (c : Code), zFx p l (zrm (d + 1) (m'.2.1 - m.2.1) (m'.2.2 - m.2.2)) s mm args meth c Z q d → meth.sig.returnType = q.r → zPc Z vs f m args s →
            W p l e (zrm (d + 1) (m'.2.1 - m.2.1) (m'.2.2 - m.2.2)) s mm args below meth c s.heap [] 0 0 (vx_MQ below (zQc Z o f' m') (zXC Z o f' m') args s (m'.2.1 - m.2.1) (m'.2.2 - m.2.2) (zA Z)) (entryFrame mm args q.n) := by
          intro p e s mm args below meth c F hr hp
          obtain ⟨rfl, hK, hX, hh⟩ := hp
          rw [lg_entry_eq]
          have hw := zwalk (Q := vx_MQ below (zQc Z o f' m') (zXC Z o f' m') (vs.map (zcv Z)).toArray s (m'.2.1 - m.2.1) (m'.2.2 - m.2.2) (zA Z)) (e := e) (below := below) (K0 := m.2.1) (S0 := m.2.2) F IH hwl hchk (o := o) (f' := f') (m' := m') (by simp only [zrm]; have := hle.1; omega) (by simp only [zrm]; have := hle.2; omega)
            (fun i hi ls st f m hs => zfin F hr IH hwl hchk hi hs (by simp only [zrm]; have := hle.1; omega) (by simp only [zrm]; have := hle.2; omega)) n 0 (zent vs q.n) [] f m hx
          have := hw s.heap [] _ (zent_L (Z := Z) hn) hh va_S.rf (Nat.le_refl _) (Nat.le_refl _)
          rw [Nat.sub_self, Nat.sub_self] at this
          exact this
        cases hh0 : q.h with
        | nil =>
          have hcode : zwsq q = Cond.code q.y q.c q.n q.r :: zTs := by simp [zwsq, zcode, hh0]
          refine vx_ofW (cc := q.c) (maxL := q.n) (ret := q.r) hpl hcode ?_
          intro p e s mm args below meth c s₁ B hml ht hp
          have hts := atoms_spec (ws := zwsq q) B.pre
          refine main p e s mm args below meth c ⟨B.exec, B.bytes, hml, findClass_of_methodNamed B.named, fun w h1 h2 => hts w (List.mem_cons_of_mem _ (List.mem_filter.mpr ⟨h1, h2⟩)), B.notSynchronized, hp.2.1, hp.2.2.1, fun hi => (name_of_methodNamed B.named B.method).1.trans hi, ?_, hlt, Nat.le_refl _, Nat.le_refl _⟩ B.returns hp
          rw [hh0]
          cases hl : c.exceptionTable.toList with
          | nil => rfl
          | cons x r => exact (ht x (by rw [hl]; exact List.mem_cons_self)).elim
        | cons h9 t9 =>
          have hcode : zwsq q = Cond.codeWith q.y q.c q.n q.r (h9 :: t9) :: zTs := by simp [zwsq, zcode, hh0]
          refine vx_ofWH (cc := q.c) (maxL := q.n) (ret := q.r) (hh := h9 :: t9) hpl hcode ?_
          intro p e s mm args below meth c s₁ B hml hp
          have hts := atoms_spec (ws := zwsq q) B.pre
          refine main p e s mm args below meth c ⟨B.exec, B.bytes, hml, findClass_of_methodNamed B.named, fun w h1 h2 => hts w (List.mem_cons_of_mem _ (List.mem_filter.mpr ⟨h1, h2⟩)), B.notSynchronized, hp.2.1, hp.2.2.1, fun hi => (name_of_methodNamed B.named B.method).1.trans hi, ?_, hlt, Nat.le_refl _, Nat.le_refl _⟩ B.returns hp
          rw [hh0]
          exact vx_table (x := q.y) B (hts _ (by rw [hcode]; exact List.mem_cons_self))
      · rw [if_neg hn] at h; cases h
