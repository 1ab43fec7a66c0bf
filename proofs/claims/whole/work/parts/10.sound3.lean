/-! SOUNDNESS: fields, arrays, new cells -/
section ZS
variable {p : Program} {l : Launch} {e : Env} {R : Room} {s : State} {mm : MethodId} {args : Array Value} {below : List Frame} {meth : Method} {c : Code} {Q : State → Prop} {Z : zZ} {nL K0 S0 : Nat} {cc : ByteArray}
theorem ztys_at {t : Nat} (h : t < 8) : (ztys Z)[t]? = some (Z.cy t, zty t) := by simp [ztys, h]
theorem z_ne8 {t : Nat} {x : vp_A} (h : t ≠ 8) : ∀ y, (Sum.inl (t, x) : zC) ≠ .inl (8, y) := fun y q => by
  simp only [Sum.inl.injEq, Prod.mk.injEq] at q
  exact h q.1
theorem z_obj {a : Nat} {fs : List Value} : ∀ y, (Sum.inr (a, fs) : zC) ≠ .inl (8, y) := fun y q => by cases q
def zTs : List Cond := lw_tbl.filter goodWord
theorem zTs_of {args : Array Value} {s : State} (hts : ∀ w ∈ lw_tbl, goodWord w = true → w.before args s = true) : ∀ w ∈ zTs, w.before args s = true := fun w hw => hts w (List.mem_filter.mp hw).1 (List.mem_filter.mp hw).2
theorem zTs_in {ws : List Cond} (h : zGood ws) : ∀ w ∈ ws, w ∈ zTs := fun w hw => List.mem_filter.mpr ⟨(h w hw).1, (h w hw).2⟩
theorem zget {fs : List Value} {k : Nat} (h : k < fs.length) : (fs.map (zcv Z))[k]? = some (zcv Z (fs.getD k .null)) := by
  rw [List.getElem?_map, List.getD_eq_getElem?_getD, List.getElem?_eq_getElem h]
  rfl
theorem z_arr_i {H1 : Heap} {a n k : Nat} {cA : ClassId} {g : Nat → Int32} {x : Int32} (e : H1[a]? = some ((vp_cell cA (n, .inl g)).setSlot k (.int x))) : H1[a]? = some (vp_cell cA (n, .inl (upd g k x))) := by
  rw [e, vp_cell_i, vp_cell_i, arrV_store]
  congr 2
  funext j
  by_cases hj : j = k <;> simp [updV, upd, hj]
theorem z_arr_l {H1 : Heap} {a n k : Nat} {cA : ClassId} {g : Nat → Int64} {x : Int64} (e : H1[a]? = some ((vp_cell cA (n, .inr (.inl g))).setSlot k (.long x))) : H1[a]? = some (vp_cell cA (n, .inr (.inl (vp_updL g k x)))) := by
  rw [e, vp_cell_l, vp_cell_l, arrV_store]
  congr 2
  funext j
  by_cases hj : j = k <;> simp [updV, vp_updL, hj]
theorem z_arr_d {H1 : Heap} {a n k : Nat} {cA : ClassId} {g : Nat → UInt64} {x : UInt64} (e : H1[a]? = some ((vp_cell cA (n, .inr (.inr (.inr (.inl g))))).setSlot k (.double x))) : H1[a]? = some (vp_cell cA (n, .inr (.inr (.inr (.inl (vf_upd g k x)))))) := by
  rw [e, vp_cell_d, vp_cell_d, arrV_store]
  congr 2
  funext j
  by_cases hj : j = k <;> simp [updV, vf_upd, hj]
theorem z_arr_q {H1 : Heap} {a n k x : Nat} {cA : ClassId} {g : Nat → Option Nat} (e : H1[a]? = some ((vp_cell cA (n, .inr (.inr (.inr (.inr (fun j => (g j).map (zad Z))))))).setSlot k (.ref (zad Z x)))) : H1[a]? = some (vp_cell cA (n, .inr (.inr (.inr (.inr (fun j => (va_up g k (some x) j).map (zad Z))))))) := by
  rw [e, vp_cell_q, vp_cell_q, arrV_store]
  congr 2
  funext j
  by_cases hj : j = k <;> simp [updV, va_up, va_rf, hj]
theorem z_in {cA : ClassId} {n : Nat} {f : Nat → Value} {j : Int32} (h : vp_in j n) : ¬ (j < 0 ∨ (arrV cA n f).slots.size ≤ j.toNatClampNeg) := by rw [arrV_size]; exact h
theorem z_lt {j : Int32} {n : Nat} (h : vp_in j n) : j.toNatClampNeg < n := Nat.not_le.mp fun q => h (Or.inr q)
theorem z_A {i : Nat} : zA Z (zad Z (i + 1)) := Nat.le_add_right _ _

theorem zs_getfield (hx : p.tables.exec = Jvm.exec) (hb : c.code = cc) (hK : zK Z s) {pc : Nat} {ls st : List Value} {f : zF} {m : zM} {r : zT} {own : String} {idx a b : Nat} {rr : vw_C} (hts : ∀ w ∈ lw_tbl, goodWord w = true → w.before args s = true) (hown : s.vm.findClass own = some mm.cls) (hc : vwCl[a]? = some rr) (hbN : b < rr.2.2) (hlink : (Cond.fieldLink own idx (rr.2.1 b).1 (rr.2.1 b).2.1 (rr.2.1 b).2.2.1).before args s = true) (hd : decode cc pc = .ok (.getfield idx, 3)) (h : zgf pc ls st f m a b = some r) (k : zKt p l e R s mm args below meth c Q Z nL K0 S0 r) : zG p l e R s mm args below meth c Q Z nL K0 S0 pc ls st f m := by
  unfold zgf at h
  split at h
  · rename_i q r0
    split at h
    · rename_i d fs hp
      by_cases hq : d = a ∧ b < fs.length
      · rw [if_pos hq] at h
        cases h
        obtain ⟨rfl, hbf⟩ := hq
        intro H locs LS hl hh hs h1 h2
        obtain ⟨N, i, rfl, hi, hP, he⟩ := hh.cell hp z_obj
        obtain ⟨g1, g2, g3, g4⟩ := zcl_ok d rr hc
        exact va_get (D := Z.D) (cl := vwCl) (C := rr.1) (T := rr.2.1) (N := rr.2.2) hx hb (zTs_of hts) (zTs_in g1) hown hK.1 hP i he hc b hbN hlink (fun _ h9 => h9) (zget hbf) hd (k H locs LS hl hh hs h1 h2)
      · rw [if_neg hq] at h; cases h
    · cases h
  · cases h

theorem zs_putfield (hx : p.tables.exec = Jvm.exec) (hb : c.code = cc) (hK : zK Z s) {pc : Nat} {ls st : List Value} {f : zF} {m : zM} {r : zT} {own : String} {idx a b : Nat} {rr : vw_C} (hts : ∀ w ∈ lw_tbl, goodWord w = true → w.before args s = true) (hown : s.vm.findClass own = some mm.cls) (hc : vwCl[a]? = some rr) (hbN : b < rr.2.2) (hlink : (Cond.fieldLink own idx (rr.2.1 b).1 (rr.2.1 b).2.1 (rr.2.1 b).2.2.1).before args s = true) (hfin : (rr.2.1 b).2.2.2 = false ∨ ((rr.2.1 b).2.2.2 = true ∧ meth.name = "<init>" ∧ (rr.2.1 b).1 = own)) (hd : decode cc pc = .ok (.putfield idx, 3)) (h : zpf pc ls st f m a b = some r) (k : zKt p l e R s mm args below meth c Q Z nL K0 S0 r) : zG p l e R s mm args below meth c Q Z nL K0 S0 pc ls st f m := by
  unfold zpf at h
  split at h
  · rename_i w q r0
    split at h
    · rename_i d fs hp
      by_cases hq : d = a ∧ b < fs.length ∧ zok (zfty a b) w = true
      · rw [if_pos hq] at h
        cases h
        obtain ⟨rfl, hbf, hok⟩ := hq
        intro H locs LS hl hh hs h1 h2
        obtain ⟨N, i, rfl, hi, hP, he⟩ := hh.cell hp z_obj
        obtain ⟨g1, g2, g3, g4⟩ := zcl_ok d rr hc
        have hts' := zTs_of hts
        have hin := zTs_in g1
        have hap := va_apart (own := own) hts' hin (zfty d) g2 g3 hK.1 hc
        obtain ⟨r1, e1, cell, q1, q2, q3, q4⟩ := hP i _ he
        have hr1 : r1 = rr := Option.some.inj (e1.symm.trans hc)
        subst hr1
        obtain ⟨hS, hfc, kC, hkC, hkind⟩ := hK.1.1 d _ hc
        obtain ⟨cf, kf, fi, fd, hi9, hsl⟩ := hS b hbN
        have hlay := hts' _ (hin _ (u_in_lay hbN))
        obtain ⟨hn, hfit⟩ := zok_ok Z hok
        have hst := (u_facts hfc hkC (u_lays hts' hin hbN) hi9).1
        have fin : ∀ (H' : Heap), H'[zad Z (i + 1)]? = some (cell.setSlot fd.slot (zcv Z w)) → H'.size = H.size → (∀ q, q ≠ zad Z (i + 1) → H'[q]? = H[q]?) → W p l e R s mm args below meth c H' (locs ++ [⟨zad Z (i + 1), fd.slot⟩]) (m.2.1 - K0) (m.2.2 - S0) Q (F0 mm (pc + 3) LS (r0.map (zcv Z))) := by
          intro H' e1' e2' e3'
          rw [hsl] at e1'
          refine k H' (locs ++ [⟨zad Z (i + 1), fd.slot⟩]) LS hl (hh.set hp z_obj (fun _ _ q => by cases q) ?_ e2' e3') (hs.put e2' e3' z_A) h1 h2
          refine ⟨_, hc, ?_⟩
          have hlen : b < (fs.map (zcv Z)).length := by rw [List.length_map]; exact hbf
          have hset : (fs.set b w).map (zcv Z) = (fs.map (zcv Z)).set b (zcv Z w) := List.map_set
          show t_OB _ _ _ _ _ (vp_V ((fs.set b w).map (zcv Z)))
          rw [hset]
          exact t_OB.to (V := updV (vp_V (fs.map (zcv Z))) b (zcv Z w)) ⟨_, e1', q2, q3, t_set q4 hap hbN (zcv Z w)⟩ (fun j _ => vp_updV_set hlen (zcv Z w) j)
        unfold u_lay at hlay
        rcases hfin with hfin | ⟨hfin, hini, hdecl⟩
        · rw [if_neg (by rw [hfin]; decide)] at hlay
          have h6 := u_store hfc hkC hkind hlay hi9 (g2 b hbN) hn hfit
          exact W.putK hx hb (f := fd) ⟨hown, hlink, ⟨_, _, _, hi9⟩, hst⟩ (by rw [q2]; exact h6) q1 q3 (by rw [hsl]; exact k2_hasslot (q4 b hbN)) rfl rfl hd fin
        · rw [if_pos hfin] at hlay
          have hcf : mm.cls = cf := by
            obtain ⟨_, _, c', _, _, _, -, -, hf', -, -, -, hown2, -⟩ := Cond.laysFinal_spec hlay
            have e9 : c' = cf := by have := hi9.symm.trans hf'; simp at this; exact this.1.symm
            rw [hdecl] at hown2
            rw [← e9]; exact Option.some.inj (hown.symm.trans hown2)
          have h6 := u_fits hfc hkC hkind (Or.inr hlay) hi9 (g2 b hbN) hn hfit
          exact W.putFinK hx hb hown hlink hi9 hst hcf hini (by rw [q2]; exact h6) q1 q3 (by rw [hsl]; exact k2_hasslot (q4 b hbN)) rfl rfl hd fin
      · rw [if_neg hq] at h; cases h
    · cases h
  · cases h

theorem zs_laload (hx : p.tables.exec = Jvm.exec) (hb : c.code = cc) (hK : zK Z s) {pc : Nat} {ls st : List Value} {f : zF} {m : zM} {r : zT}   (hd : decode cc pc = .ok (.laload, 1)) (h : zall pc ls st f m = some r) (k : zKt p l e R s mm args below meth c Q Z nL K0 S0 r) : zG p l e R s mm args below meth c Q Z nL K0 S0 pc ls st f m := by
  unfold zall at h
  split at h
  · rename_i j q r0
    split at h
    · rename_i t n g hp
      by_cases hq : t = 1 ∧ zib j n = true
      · rw [if_pos hq] at h
        cases h
        obtain ⟨rfl, hj⟩ := hq
        intro H locs LS hl hh hs h1 h2
        obtain ⟨N, i, rfl, hi, hP, he⟩ := hh.cell hp (z_ne8 (by decide))
        exact va_lald (D := Z.D) (cl := vwCl) hx hb hK.1 hP i 1 he (ztys_at (by decide)) (zib_in hj) hd (k H locs LS hl hh hs h1 h2)
      · rw [if_neg hq] at h; cases h
    · cases h
  · cases h

theorem zs_daload (hx : p.tables.exec = Jvm.exec) (hb : c.code = cc) (hK : zK Z s) {pc : Nat} {ls st : List Value} {f : zF} {m : zM} {r : zT}   (hd : decode cc pc = .ok (.daload, 1)) (h : zald pc ls st f m = some r) (k : zKt p l e R s mm args below meth c Q Z nL K0 S0 r) : zG p l e R s mm args below meth c Q Z nL K0 S0 pc ls st f m := by
  unfold zald at h
  split at h
  · rename_i j q r0
    split at h
    · rename_i t n g hp
      by_cases hq : t = 4 ∧ zib j n = true
      · rw [if_pos hq] at h
        cases h
        obtain ⟨rfl, hj⟩ := hq
        intro H locs LS hl hh hs h1 h2
        obtain ⟨N, i, rfl, hi, hP, he⟩ := hh.cell hp (z_ne8 (by decide))
        exact va_dald (D := Z.D) (cl := vwCl) hx hb hK.1 hP i 4 he (ztys_at (by decide)) (zib_in hj) hd (k H locs LS hl hh hs h1 h2)
      · rw [if_neg hq] at h; cases h
    · cases h
  · cases h

theorem zs_zaload (hx : p.tables.exec = Jvm.exec) (hb : c.code = cc) (hK : zK Z s) {pc : Nat} {ls st : List Value} {f : zF} {m : zM} {r : zT}   (hd : decode cc pc = .ok (.baload, 1)) (h : zali pc ls st f m 2 = some r) (k : zKt p l e R s mm args below meth c Q Z nL K0 S0 r) : zG p l e R s mm args below meth c Q Z nL K0 S0 pc ls st f m := by
  unfold zali at h
  split at h
  · rename_i j q r0
    split at h
    · rename_i t n g hp
      by_cases hq : t = 2 ∧ zib j n = true
      · rw [if_pos hq] at h
        cases h
        obtain ⟨rfl, hj⟩ := hq
        intro H locs LS hl hh hs h1 h2
        obtain ⟨N, i, rfl, hi, hP, he⟩ := hh.cell hp (z_ne8 (by decide))
        exact va_zald (D := Z.D) (cl := vwCl) hx hb hK.1 hP i 2 he (ztys_at (by decide)) (zib_in hj) hd (k H locs LS hl hh hs h1 h2)
      · rw [if_neg hq] at h; cases h
    · cases h
  · cases h

theorem zs_caload (hx : p.tables.exec = Jvm.exec) (hb : c.code = cc) (hK : zK Z s) {pc : Nat} {ls st : List Value} {f : zF} {m : zM} {r : zT}   (hd : decode cc pc = .ok (.caload, 1)) (h : zali pc ls st f m 3 = some r) (k : zKt p l e R s mm args below meth c Q Z nL K0 S0 r) : zG p l e R s mm args below meth c Q Z nL K0 S0 pc ls st f m := by
  unfold zali at h
  split at h
  · rename_i j q r0
    split at h
    · rename_i t n g hp
      by_cases hq : t = 3 ∧ zib j n = true
      · rw [if_pos hq] at h
        cases h
        obtain ⟨rfl, hj⟩ := hq
        intro H locs LS hl hh hs h1 h2
        obtain ⟨N, i, rfl, hi, hP, he⟩ := hh.cell hp (z_ne8 (by decide))
        exact va_cald (D := Z.D) (cl := vwCl) hx hb hK.1 hP i 3 he (ztys_at (by decide)) (zib_in hj) hd (k H locs LS hl hh hs h1 h2)
      · rw [if_neg hq] at h; cases h
    · cases h
  · cases h

theorem zs_iaload (hx : p.tables.exec = Jvm.exec) (hb : c.code = cc) (hK : zK Z s) {pc : Nat} {ls st : List Value} {f : zF} {m : zM} {r : zT}  (hX : zS Z s s.heap) (hd : decode cc pc = .ok (.iaload, 1)) (h : zai pc ls st f m = some r) (k : zKt p l e R s mm args below meth c Q Z nL K0 S0 r) : zG p l e R s mm args below meth c Q Z nL K0 S0 pc ls st f m := by
  unfold zai at h
  split at h
  · rename_i j q r0
    split at h
    · rename_i t n g hp
      by_cases hq : (t = 0 ∨ t = 8) ∧ zib j n = true
      · rw [if_pos hq] at h
        cases h
        obtain ⟨ht, hj⟩ := hq
        intro H locs LS hl hh hs h1 h2
        rcases ht with rfl | rfl
        · obtain ⟨N, i, rfl, hi, hP, he⟩ := hh.cell hp (z_ne8 (by decide))
          exact va_iald (D := Z.D) (cl := vwCl) hx hb hK.1 hP i 0 he (ztys_at (by decide)) (zib_in hj) hd (k H locs LS hl hh hs h1 h2)
        · rcases hh.tag hp with h9 | ⟨-, rfl, h9⟩
          · omega
          · cases h9
            exact va_sld hx hb hX.2.2.1 (Nat.lt_of_lt_of_le hX.2.2.2.1 hX.2.2.2.2) (Nat.not_le.mpr hX.2.2.2.1) hs (zib_in hj) hd (k H locs LS hl hh hs h1 h2)
      · rw [if_neg hq] at h; cases h
    · cases h
  · cases h

theorem zs_aaload (hx : p.tables.exec = Jvm.exec) (hb : c.code = cc) (hK : zK Z s) {pc : Nat} {ls st : List Value} {f : zF} {m : zM} {r : zT}   (hd : decode cc pc = .ok (.aaload, 1)) (h : zala pc ls st f m = some r) (k : zKt p l e R s mm args below meth c Q Z nL K0 S0 r) : zG p l e R s mm args below meth c Q Z nL K0 S0 pc ls st f m := by
  unfold zala at h
  split at h
  · rename_i j q r0
    split at h
    · rename_i t n g hp
      by_cases hq : (t = 5 ∨ t = 6 ∨ t = 7) ∧ zib j n = true
      · rw [if_pos hq] at h
        obtain ⟨ht, hj⟩ := hq
        split at h
        · rename_i v hv
          cases h
          have ht8 : t < 8 := by omega
          intro H locs LS hl hh hs h1 h2
          obtain ⟨N, i, rfl, hi, hP, he⟩ := hh.cell hp (z_ne8 (by omega))
          have hin := zib_in hj
          have href : (zty t).isReference = true := by rcases ht with rfl | rfl | rfl <;> rfl
          refine W.aald (v := .ref (zad Z v)) (ty := zty t) hx hb (hP i _ he) ((hK.1.2 t _ (ztys_at ht8)).1 n (fun j => va_rf ((g j).map (zad Z)))) href (fun q => by cases q) (z_in hin) ?_ rfl rfl hd (k H locs LS hl hh hs h1 h2)
          show (arrV (Z.cy t) n (fun j => va_rf ((g j).map (zad Z)))).slots[j.toNatClampNeg]? = _
          rw [arrV_read _ _ (z_lt hin), hv]
          rfl
        · cases h
      · rw [if_neg hq] at h; cases h
    · cases h
  · cases h

theorem zs_alen (hx : p.tables.exec = Jvm.exec) (hb : c.code = cc) (hK : zK Z s) {pc : Nat} {ls st : List Value} {f : zF} {m : zM} {r : zT}  (hX : zS Z s s.heap) (hd : decode cc pc = .ok (.arraylength, 1)) (h : zal pc ls st f m = some r) (k : zKt p l e R s mm args below meth c Q Z nL K0 S0 r) : zG p l e R s mm args below meth c Q Z nL K0 S0 pc ls st f m := by
  unfold zal at h
  split at h
  · rename_i q r0
    split at h
    · rename_i t n x hp
      cases h
      intro H locs LS hl hh hs h1 h2
      rcases hh.tag hp with h9 | ⟨rfl, rfl, h9⟩
      · obtain ⟨N, i, rfl, hi, hP, he⟩ := hh.cell hp (z_ne8 (by omega))
        have e9 : (zca Z (n, x)).1 = n := by rcases x with x | x | x | x | x <;> rfl
        exact va_alen (D := Z.D) (cl := vwCl) hx hb hK.1 hP i t he (ztys_at h9) (by rw [e9]) hd (k H locs LS hl hh hs h1 h2)
      · cases h9
        exact va_slen hx hb hX.2.2.1 (Nat.lt_of_lt_of_le hX.2.2.2.1 hX.2.2.2.2) (Nat.not_le.mpr hX.2.2.2.1) hs hd (k H locs LS hl hh hs h1 h2)
    · cases h
  · cases h

theorem zs_iastore (hx : p.tables.exec = Jvm.exec) (hb : c.code = cc) (hK : zK Z s) {pc : Nat} {ls st : List Value} {f : zF} {m : zM} {r : zT}   (hd : decode cc pc = .ok (.iastore, 1)) (h : zasi pc ls st f m 0 = some r) (k : zKt p l e R s mm args below meth c Q Z nL K0 S0 r) : zG p l e R s mm args below meth c Q Z nL K0 S0 pc ls st f m := by
  unfold zasi at h
  split at h
  · rename_i x j q r0
    split at h
    · rename_i t n g hp
      by_cases hq : t = 0 ∧ zib j n = true
      · rw [if_pos hq] at h
        cases h
        obtain ⟨rfl, hj⟩ := hq
        intro H locs LS hl hh hs h1 h2
        obtain ⟨N, i, rfl, hi, hP, he⟩ := hh.cell hp (z_ne8 (by decide))
        exact W.iast hx hb (hP i _ he) ((hK.1.2 0 _ (ztys_at (by decide))).1 n (fun j => .int (g j))) (fun q => by cases q) (z_in (zib_in hj)) rfl rfl hd (fun H1 e1 z1 o1 => k H1 _ LS hl (hh.set hp (z_ne8 (by decide)) (fun t9 x9 q9 => by cases q9; decide) (z_arr_i e1) z1 o1) (hs.put z1 o1 z_A) h1 h2)
      · rw [if_neg hq] at h; cases h
    · cases h
  · cases h

theorem zs_zastore (hx : p.tables.exec = Jvm.exec) (hb : c.code = cc) (hK : zK Z s) {pc : Nat} {ls st : List Value} {f : zF} {m : zM} {r : zT}   (hd : decode cc pc = .ok (.bastore, 1)) (h : zasi pc ls st f m 2 = some r) (k : zKt p l e R s mm args below meth c Q Z nL K0 S0 r) : zG p l e R s mm args below meth c Q Z nL K0 S0 pc ls st f m := by
  unfold zasi at h
  split at h
  · rename_i x j q r0
    split at h
    · rename_i t n g hp
      by_cases hq : t = 2 ∧ zib j n = true
      · rw [if_pos hq] at h
        cases h
        obtain ⟨rfl, hj⟩ := hq
        intro H locs LS hl hh hs h1 h2
        obtain ⟨N, i, rfl, hi, hP, he⟩ := hh.cell hp (z_ne8 (by decide))
        exact W.zast hx hb (hP i _ he) ((hK.1.2 2 _ (ztys_at (by decide))).1 n (fun j => .int (g j))) (fun q => by cases q) (z_in (zib_in hj)) rfl rfl hd (fun H1 e1 z1 o1 => k H1 _ LS hl (hh.set hp (z_ne8 (by decide)) (fun t9 x9 q9 => by cases q9; decide) (z_arr_i e1) z1 o1) (hs.put z1 o1 z_A) h1 h2)
      · rw [if_neg hq] at h; cases h
    · cases h
  · cases h

theorem zs_castore (hx : p.tables.exec = Jvm.exec) (hb : c.code = cc) (hK : zK Z s) {pc : Nat} {ls st : List Value} {f : zF} {m : zM} {r : zT}   (hd : decode cc pc = .ok (.castore, 1)) (h : zasi pc ls st f m 3 = some r) (k : zKt p l e R s mm args below meth c Q Z nL K0 S0 r) : zG p l e R s mm args below meth c Q Z nL K0 S0 pc ls st f m := by
  unfold zasi at h
  split at h
  · rename_i x j q r0
    split at h
    · rename_i t n g hp
      by_cases hq : t = 3 ∧ zib j n = true
      · rw [if_pos hq] at h
        cases h
        obtain ⟨rfl, hj⟩ := hq
        intro H locs LS hl hh hs h1 h2
        obtain ⟨N, i, rfl, hi, hP, he⟩ := hh.cell hp (z_ne8 (by decide))
        exact W.cast hx hb (hP i _ he) ((hK.1.2 3 _ (ztys_at (by decide))).1 n (fun j => .int (g j))) (fun q => by cases q) (z_in (zib_in hj)) rfl rfl hd (fun H1 e1 z1 o1 => k H1 _ LS hl (hh.set hp (z_ne8 (by decide)) (fun t9 x9 q9 => by cases q9; decide) (z_arr_i e1) z1 o1) (hs.put z1 o1 z_A) h1 h2)
      · rw [if_neg hq] at h; cases h
    · cases h
  · cases h

theorem zs_lastore (hx : p.tables.exec = Jvm.exec) (hb : c.code = cc) (hK : zK Z s) {pc : Nat} {ls st : List Value} {f : zF} {m : zM} {r : zT}   (hd : decode cc pc = .ok (.lastore, 1)) (h : zasl pc ls st f m = some r) (k : zKt p l e R s mm args below meth c Q Z nL K0 S0 r) : zG p l e R s mm args below meth c Q Z nL K0 S0 pc ls st f m := by
  unfold zasl at h
  split at h
  · rename_i x j q r0
    split at h
    · rename_i t n g hp
      by_cases hq : t = 1 ∧ zib j n = true
      · rw [if_pos hq] at h
        cases h
        obtain ⟨rfl, hj⟩ := hq
        intro H locs LS hl hh hs h1 h2
        obtain ⟨N, i, rfl, hi, hP, he⟩ := hh.cell hp (z_ne8 (by decide))
        exact W.last hx hb (hP i _ he) ((hK.1.2 1 _ (ztys_at (by decide))).1 n (fun j => .long (g j))) (fun q => by cases q) (z_in (zib_in hj)) rfl rfl hd (fun H1 e1 z1 o1 => k H1 _ LS hl (hh.set hp (z_ne8 (by decide)) (fun t9 x9 q9 => by cases q9; decide) (z_arr_l e1) z1 o1) (hs.put z1 o1 z_A) h1 h2)
      · rw [if_neg hq] at h; cases h
    · cases h
  · cases h

theorem zs_dastore (hx : p.tables.exec = Jvm.exec) (hb : c.code = cc) (hK : zK Z s) {pc : Nat} {ls st : List Value} {f : zF} {m : zM} {r : zT}   (hd : decode cc pc = .ok (.dastore, 1)) (h : zasd pc ls st f m = some r) (k : zKt p l e R s mm args below meth c Q Z nL K0 S0 r) : zG p l e R s mm args below meth c Q Z nL K0 S0 pc ls st f m := by
  unfold zasd at h
  split at h
  · rename_i x j q r0
    split at h
    · rename_i t n g hp
      by_cases hq : t = 4 ∧ zib j n = true
      · rw [if_pos hq] at h
        cases h
        obtain ⟨rfl, hj⟩ := hq
        intro H locs LS hl hh hs h1 h2
        obtain ⟨N, i, rfl, hi, hP, he⟩ := hh.cell hp (z_ne8 (by decide))
        exact W.dast hx hb (hP i _ he) ((hK.1.2 4 _ (ztys_at (by decide))).1 n (fun j => .double (g j))) (fun q => by cases q) (z_in (zib_in hj)) rfl rfl hd (fun H1 e1 z1 o1 => k H1 _ LS hl (hh.set hp (z_ne8 (by decide)) (fun t9 x9 q9 => by cases q9; decide) (z_arr_d e1) z1 o1) (hs.put z1 o1 z_A) h1 h2)
      · rw [if_neg hq] at h; cases h
    · cases h
  · cases h

theorem zs_aastore (hx : p.tables.exec = Jvm.exec) (hb : c.code = cc) (hK : zK Z s) {pc : Nat} {ls st : List Value} {f : zF} {m : zM} {r : zT}   (hd : decode cc pc = .ok (.aastore, 1)) (h : zasa pc ls st f m = some r) (k : zKt p l e R s mm args below meth c Q Z nL K0 S0 r) : zG p l e R s mm args below meth c Q Z nL K0 S0 pc ls st f m := by
  unfold zasa at h
  split at h
  · rename_i v j q r0
    split at h
    · rename_i t n g hp
      split at h
      · rename_i d fs hv
        by_cases hq : t = 5 ∧ d = 2 ∧ zib j n = true
        · rw [if_pos hq] at h
          cases h
          obtain ⟨rfl, rfl, hj⟩ := hq
          intro H locs LS hl hh hs h1 h2
          obtain ⟨N, i, rfl, hi, hP, he⟩ := hh.cell hp (z_ne8 (by decide))
          obtain ⟨N', i', rfl, hi', hP', he'⟩ := hh.cell hv z_obj
          have hin := zib_in hj
          obtain ⟨r', hr', cellV, g1, g2, g3, -⟩ := hP' i' _ he'
          have hcls := (hK.1.1 2 _ (rfl : vwCl[2]? = some (RX2, TX2, 4))).2
          obtain ⟨kA, comp, k1, k2, k3, -⟩ := (hK.1.2 5 _ (ztys_at (by decide))).2
          have hcomp : comp = Z.D.1 2 := Option.some.inj (k3.symm.trans hcls.1)
          subst hcomp
          obtain ⟨kC, hkC, -⟩ := hcls.2
          exact W.aast hx hb (hP i _ he) (fun q h => by cases h) (fun h => by cases h) k1 k2 rfl hkC ⟨fun q => hin (Or.inl q), by show _ < (arrV _ _ _).slots.size; rw [arrV_size]; exact z_lt hin⟩ g1 (fun q h => by rw [g3] at h; cases h) (by rw [g2]; exact hkC) (by rw [g2]; exact va_assign hcls) rfl rfl hd
            (fun H1 e1 z1 o1 => k H1 _ LS hl (hh.set hp (z_ne8 (by decide)) (fun t9 x9 q9 => by cases q9; decide) (z_arr_q e1) z1 o1) (hs.put z1 o1 z_A) h1 h2)
        · rw [if_neg hq] at h; cases h
      · cases h
    · cases h
  · cases h

theorem zws_push {f : zF} {N : Nat} {x : zC} : zws Z (zup f (N + 1) x) (N + 1) = zws Z f N ++ [(zad Z (N + 1), zce Z x)] := by
  simp only [zws, List.range_succ, List.map_append, List.map_cons, List.map_nil]
  congr 1
  · refine List.map_congr_left fun j hj => ?_
    have := List.mem_range.mp hj
    simp [zup, show ¬ j = N by omega]
  · simp [zup, zad]
theorem zHR.push {f : zF} {n k0 n0 k1 n1 : Nat} {H H1 : Heap} (h : zHR Z f (some n, k0, n0) H) {x : zC} (hat : va_at Z.D vwCl (zad Z n, zce Z x) H1) (hc : ∀ t y, x = .inl (t, y) → t < 8) (z1 : H1.size = H.size + 1) (o1 : ∀ q, q < H.size → H1[q]? = H[q]?) : zHR Z (zup f n x) (some (n + 1), k1, n1) H1 := by
  obtain ⟨N, g1, g2, g3, g4, g5⟩ := h
  obtain ⟨rfl, hz⟩ := g5 n rfl
  refine ⟨N + 1, fun i => ?_, ?_, ?_, fun j t y hj hy => ?_, fun n' hn' => by cases hn'; exact ⟨rfl, by omega⟩⟩
  · by_cases hi : i = N + 1
    · subst hi; simp [zup]
    · simp only [zup, if_neg hi, g1]
      congr 1
      exact propext ⟨fun h => by omega, fun h => by omega⟩
  · rw [zws_push]
    refine (g2.kept fun k9 q9 hk9 => o1 _ ((g2 k9 q9 hk9).lt)).app fun k9 q9 hk9 => ?_
    have h0 : k9 < 1 := (List.getElem?_eq_some_iff.mp hk9).1
    rw [show k9 = 0 by omega] at hk9
    cases hk9
    exact hat
  · simp only [zup]
    rw [if_neg (by omega)]
    exact g3
  · by_cases hj2 : j = N + 1
    · subst hj2
      simp only [zup, if_true] at hy
      exact hc t y (Option.some.inj hy)
    · simp only [zup, if_neg hj2] at hy
      exact g4 j t y hj hy
theorem zHR.next {f : zF} {n k0 n0 : Nat} {H : Heap} (h : zHR Z f (some n, k0, n0) H) : zad Z n = H.size := by
  obtain ⟨N, -, -, -, -, g5⟩ := h
  obtain ⟨rfl, hz⟩ := g5 n rfl
  exact hz.symm
theorem z_Sgrow {H H1 : Heap} {locs : List Loc} {H0 : Heap} (hs : va_S (zA Z) H0 H locs) (z1 : H.size ≤ H1.size) (o1 : ∀ q, q < H.size → H1[q]? = H[q]?) : va_S (zA Z) H0 H1 locs :=
  ⟨Nat.le_trans hs.1 z1, fun x h1 h2 => (o1 x (Nat.lt_of_lt_of_le h1 hs.1)).trans (hs.2.1 x h1 h2), hs.2.2⟩
theorem z_dflt (t : FieldType) : zcv Z (defaultValue t) = defaultValue t := by cases t <;> rfl

theorem zs_new (hx : p.tables.exec = Jvm.exec) (hb : c.code = cc) (hK : zK Z s) {pc : Nat} {ls st : List Value} {f : zF} {m : zM} {r : zT} {own : String} {idx a : Nat} {rr : vw_C} (hts : ∀ w ∈ lw_tbl, goodWord w = true → w.before args s = true) (hown : s.vm.findClass own = some mm.cls) (hc : vwCl[a]? = some rr) (hclink : (Cond.classLink own idx rr.1).before args s = true) (hins : (Cond.instantiable rr.1 rr.2.2).before args s = true) (hinit : (Cond.initialized rr.1).before args s = true) (hRc : m.2.1 + 1 ≤ K0 + R.cells) (hRs : m.2.2 + zfn.getD a 0 ≤ S0 + R.slots) (hd : decode cc pc = .ok (.new idx, 3)) (h : znew pc ls st f m a = some r) (k : zKt p l e R s mm args below meth c Q Z nL K0 S0 r) : zG p l e R s mm args below meth c Q Z nL K0 S0 pc ls st f m := by
  unfold znew at h
  split at h
  · rename_i n0 k0 s0
    by_cases ha : a < zfn.length
    · rw [if_pos ha] at h
      cases h
      intro H locs LS hl hh hs h1 h2
      obtain ⟨g1, g2, g3, g4⟩ := zcl_ok a rr hc
      have hKn := hK.1.1 a _ hc
      have hts' := zTs_of hts
      have hin := zTs_in g1
      dsimp only at h1 h2 hRc hRs
      show W p l e R s mm args below meth c H locs (k0 - K0) (s0 - S0) Q (F0 mm pc LS (st.map (zcv Z)))
      refine W.newcK hx hb hown hclink hins hinit rfl hd (by omega) (by rw [g4]; omega) hKn.2.1 rfl fun H1 kC hkC e1 z1 o1 => ?_
      have hfs : ∀ j, j < rr.2.2 → defaultValue (zfty a j) = vp_V ((zdf a).map (zcv Z)) j := by
        intro j hj
        rw [g4] at hj
        have e9 : ((zdf a).map (zcv Z))[j]? = some (defaultValue (zfty a j)) := by
          rw [List.getElem?_map, zdf, List.getElem?_map, List.getElem?_range hj]
          exact congrArg some (z_dflt _)
        unfold vp_V
        rw [List.getD_eq_getElem?_getD, e9]
        rfl
      have hat : va_at Z.D vwCl (zad Z n0, zce Z (.inr (a, zdf a))) H1 := by
        rw [hh.next]
        exact ⟨_, hc, (u_born (zfty a) hts' hin hKn hkC e1 g2).to hfs⟩
      have := k H1 locs LS hl (hh.push hat (fun _ _ q => by cases q) z1 o1) (z_Sgrow hs (by omega) o1) (by dsimp only; omega) (by dsimp only; omega)
      rw [show (k0 + 1 - K0) = k0 - K0 + 1 by omega, show (s0 + zfn.getD a 0 - S0) = s0 - S0 + rr.2.2 by rw [g4]; omega] at this
      rw [← hh.next]
      exact this
    · rw [if_neg ha] at h; cases h
  · cases h

theorem zs_newarray (hx : p.tables.exec = Jvm.exec) (hb : c.code = cc) (hK : zK Z s) {pc : Nat} {ls st : List Value} {f : zF} {m : zM} {r : zT} {ty : ArrayType} (harr : (Cond.arrayClass (newarray.typeOf ty)).before args s = true) (hRc : m.2.1 + 1 ≤ K0 + R.cells) (hRs : ∀ x r0, st = .int x :: r0 → m.2.2 + x.toNatClampNeg ≤ S0 + R.slots) (hd : decode cc pc = .ok (.newarray ty, 2)) (h : znwa pc ls st f m (ztag ty) = some r) (k : zKt p l e R s mm args below meth c Q Z nL K0 S0 r) : zG p l e R s mm args below meth c Q Z nL K0 S0 pc ls st f m := by
  unfold znwa at h
  split at h
  · rename_i x r0 n0 k0 s0
    split at h
    · rename_i g hg
      by_cases hq : ¬ x < 0 ∧ x.toNatClampNeg ≤ 10000
      · rw [if_pos hq] at h
        cases h
        intro H locs LS hl hh hs h1 h2
        dsimp only at h1 h2 hRc hRs
        have hcb : componentBytes (newarray.typeOf ty) ≤ 8 := by cases ty <;> decide
        have hbytes : x.toNatClampNeg * componentBytes (newarray.typeOf ty) ≤ 536870912 := Nat.le_trans (Nat.mul_le_mul hq.2 hcb) (by decide)
        have hsz := hRs x r0 rfl
        have hn0 := hh.next
        show W p l e R s mm args below meth c H locs (k0 - K0) (s0 - S0) Q (F0 mm pc LS (.int x :: r0.map (zcv Z)))
        refine va_newaK hx hb harr rfl hd rfl hq.1 rfl hbytes (by omega) (by omega) rfl fun H1 cA e1 z1 o1 _ hNm => ?_
        have hat : va_at Z.D vwCl (zad Z n0, zce Z (.inl (ztag ty, (x.toNatClampNeg, g)))) H1 := by
          rw [hn0]
          cases ty <;> simp only [ztag, zna, Option.some.injEq, reduceCtorEq] at hg <;> subst hg
          · have hc := (hK.1.2 2 _ (ztys_at (by decide))).2
            have hcA : cA = Z.cy 2 := Option.some.inj (hNm.symm.trans hc)
            subst hcA
            exact e1
          · have hc := (hK.1.2 3 _ (ztys_at (by decide))).2
            have hcA : cA = Z.cy 3 := Option.some.inj (hNm.symm.trans hc)
            subst hcA
            exact e1
          · have hc := (hK.1.2 4 _ (ztys_at (by decide))).2
            have hcA : cA = Z.cy 4 := Option.some.inj (hNm.symm.trans hc)
            subst hcA
            exact e1
          · have hc := (hK.1.2 0 _ (ztys_at (by decide))).2
            have hcA : cA = Z.cy 0 := Option.some.inj (hNm.symm.trans hc)
            subst hcA
            exact e1
          · have hc := (hK.1.2 1 _ (ztys_at (by decide))).2
            have hcA : cA = Z.cy 1 := Option.some.inj (hNm.symm.trans hc)
            subst hcA
            exact e1
        have htag : ∀ t y, (Sum.inl (ztag ty, (x.toNatClampNeg, g)) : zC) = .inl (t, y) → t < 8 := by
          intro t y q
          cases q
          cases ty <;> first | decide | (simp [ztag, zna] at hg)
        have := k H1 locs LS hl (hh.push hat htag z1 o1) (z_Sgrow hs (by omega) o1) (by dsimp only; omega) (by dsimp only; omega)
        rw [show (k0 + 1 - K0) = k0 - K0 + 1 by omega, show (s0 + x.toNatClampNeg - S0) = s0 - S0 + x.toNatClampNeg by omega] at this
        rw [← hn0]
        exact this
      · rw [if_neg hq] at h; cases h
    · cases h
  · cases h

theorem zs_anewarray (hx : p.tables.exec = Jvm.exec) (hb : c.code = cc) (hK : zK Z s) {pc : Nat} {ls st : List Value} {f : zF} {m : zM} {r : zT} {own : String} {idx : Nat} (hown : s.vm.findClass own = some mm.cls) (hclink : (Cond.classLink own idx "PatternFinder$Pattern").before args s = true) (hRc : m.2.1 + 1 ≤ K0 + R.cells) (hRs : ∀ x r0, st = .int x :: r0 → m.2.2 + x.toNatClampNeg ≤ S0 + R.slots) (hd : decode cc pc = .ok (.anewarray idx, 3)) (h : znqa pc ls st f m = some r) (k : zKt p l e R s mm args below meth c Q Z nL K0 S0 r) : zG p l e R s mm args below meth c Q Z nL K0 S0 pc ls st f m := by
  unfold znqa at h
  split at h
  · rename_i x r0 n0 k0 s0
    by_cases hq : ¬ x < 0 ∧ x.toNatClampNeg ≤ 10000
    · rw [if_pos hq] at h
      cases h
      intro H locs LS hl hh hs h1 h2
      dsimp only at h1 h2 hRc hRs
      have hbytes : x.toNatClampNeg * 4 ≤ 536870912 := by have := hq.2; omega
      have hsz := hRs x r0 rfl
      have hn0 := hh.next
      show W p l e R s mm args below meth c H locs (k0 - K0) (s0 - S0) Q (F0 mm pc LS (.int x :: r0.map (zcv Z)))
      refine W.anew hx hb hown hclink (va_AO.use hK.2.2.2.2.1) rfl hd rfl hq.1 hbytes (by omega) (by omega) fun cA kA comp f1 f2 f3 f4 => ?_
      generalize hH1 : H.push ({ cls := cA, slots := Array.replicate x.toNatClampNeg .null, vm := .none } : Cell) = H1
      have z1 : H1.size = H.size + 1 := by rw [← hH1, Array.size_push]
      have e1 : H1[H.size]? = some (arrV cA x.toNatClampNeg (fun _ => .null)) := by rw [← hH1, Array.getElem?_push_size, ← arrV_new]
      have o1 : ∀ q : Nat, q < H.size → H1[q]? = H[q]? := fun q hq => by rw [← hH1, Array.getElem?_push, if_neg (Nat.ne_of_lt hq)]
      obtain ⟨kA', comp', a1, a2, a3, a4⟩ := (hK.1.2 5 _ (ztys_at (by decide))).2
      have hcA : cA = Z.cy 5 := Option.some.inj (f1.symm.trans a4)
      subst hcA
      have hat : va_at Z.D vwCl (zad Z n0, zce Z (.inl (5, (x.toNatClampNeg, .inr (.inr (.inr (.inr (fun _ => none)))))))) H1 := by
        rw [hn0]
        exact e1
      have := k H1 locs LS hl (hh.push hat (fun t y q => by cases q; decide) z1 o1) (z_Sgrow hs (by omega) o1) (by dsimp only; omega) (by dsimp only; omega)
      rw [show (k0 + 1 - K0) = k0 - K0 + 1 by omega, show (s0 + x.toNatClampNeg - S0) = s0 - S0 + x.toNatClampNeg by omega] at this
      rw [← hn0]
      exact this
    · rw [if_neg hq] at h; cases h
  · cases h

theorem zs_multianewarray (hx : p.tables.exec = Jvm.exec) (hb : c.code = cc) (hK : zK Z s) {pc : Nat} {ls st : List Value} {f : zF} {m : zM} {r : zT} {own : String} {idx a : Nat} (hown : s.vm.findClass own = some mm.cls) (hclink : (Cond.classLink own idx ("[" ++ (FieldType.array (zty a)).toString)).before args s = true) (harr : (Cond.arrayClass (zty a)).before args s = true) (hRc : ∀ y x r0, st = .int y :: .int x :: r0 → m.2.1 + (1 + x.toNatClampNeg) ≤ K0 + R.cells) (hRs : ∀ y x r0, st = .int y :: .int x :: r0 → m.2.2 + (x.toNatClampNeg + x.toNatClampNeg * y.toNatClampNeg) ≤ S0 + R.slots) (hd : decode cc pc = .ok (.multianewarray idx 2, 4)) (h : znma pc ls st f m a = some r) (k : zKt p l e R s mm args below meth c Q Z nL K0 S0 r) : zG p l e R s mm args below meth c Q Z nL K0 S0 pc ls st f m := by
  unfold znma at h
  split at h
  · rename_i y x r0 n0 k0 s0
    split at h
    · rename_i g hg
      by_cases hq : a < 2 ∧ ¬ x < 0 ∧ ¬ y < 0 ∧ x.toNatClampNeg ≤ 10000 ∧ y.toNatClampNeg ≤ 10000
      · rw [if_pos hq] at h
        cases h
        obtain ⟨ha, hx0, hy0, hx1, hy1⟩ := hq
        intro H locs LS hl hh hs h1 h2
        dsimp only at h1 h2 hRc hRs
        have hsz := hRs y x r0 rfl
        have hsc := hRc y x r0 rfl
        have hn0 := hh.next
        show W p l e R s mm args below meth c H locs (k0 - K0) (s0 - S0) Q (F0 mm pc LS (.int y :: .int x :: r0.map (zcv Z)))
        intro T hT X
        have hcb : componentBytes (zty a) ≤ 8 := by have : a = 0 ∨ a = 1 := by omega
                                                    rcases this with rfl | rfl <;> decide
        have hb2 : y.toNatClampNeg * componentBytes (zty a) ≤ 536870912 := Nat.le_trans (Nat.mul_le_mul hy1 hcb) (by decide)
        have hdf : fits (zty a) (defaultValue (zty a)) = true ∧ (defaultValue (zty a)).isDefault = true := by
          have : a = 0 ∨ a = 1 := by omega
          rcases this with rfl | rfl <;> exact ⟨rfl, rfl⟩
        have hAO : va_AOA (zty a) s := by
          have : a = 0 ∨ a = 1 := by omega
          rcases this with rfl | rfl
          · exact hK.2.2.2.2.2.1
          · exact hK.2.2.2.2.2.2.1
        obtain ⟨vm₁, cA, comp, -, fA, fC, -, -, X', step⟩ := X.multianewarray2F hx hown hclink (va_AOA.use hAO) harr (g := F0 mm pc LS (.int y :: .int x :: r0.map (zcv Z))) rfl (by rw [hb]; exact hd) rfl hx0 hy0 (by omega) hb2 (by omega) hdf.1 hdf.2 (by omega) (by omega)
        have hcA : cA = Z.cy (a + 6) := by
          have : a = 0 ∨ a = 1 := by omega
          rcases this with rfl | rfl
          · exact Option.some.inj (fA.symm.trans (hK.1.2 6 _ (ztys_at (by decide))).2)
          · exact Option.some.inj (fA.symm.trans (hK.1.2 7 _ (ztys_at (by decide))).2)
        have hcomp : comp = Z.cy a := by
          have : a = 0 ∨ a = 1 := by omega
          rcases this with rfl | rfl
          · exact Option.some.inj (fC.symm.trans (hK.1.2 0 _ (ztys_at (by decide))).2)
          · exact Option.some.inj (fC.symm.trans (hK.1.2 1 _ (ztys_at (by decide))).2)
        subst hcA
        subst hcomp
        generalize hF : Jvm.Free.Multi.fill (T.setVm vm₁) (Z.cy (a + 6)) (Z.cy a) x.toNatClampNeg y.toNatClampNeg (defaultValue (zty a)) x.toNatClampNeg = F at X' step
        have hTh : (T.setVm vm₁).heap = H := hT
        obtain ⟨f1, f2, -, -⟩ := Jvm.Free.Multi.fill_facts (T.setVm vm₁) (Z.cy (a + 6)) (Z.cy a) x.toNatClampNeg y.toNatClampNeg (defaultValue (zty a)) x.toNatClampNeg
        rw [hF, hTh] at f1 f2
        have hold : ∀ q : Nat, q < H.size → F.heap[q]? = H[q]? := fun q hq => by
          have := Jvm.Free.Multi.fill_old (T.setVm vm₁) (Z.cy (a + 6)) (Z.cy a) x.toNatClampNeg y.toNatClampNeg (defaultValue (zty a)) (a := q) (by rw [hTh]; exact hq) x.toNatClampNeg
          rw [hF, hTh] at this
          exact this
        have hrow : ∀ j : Nat, j < x.toNatClampNeg → F.heap[H.size + 1 + j]? = some (vp_cell (Z.cy a) (y.toNatClampNeg, g)) := fun j hj => by
          have := Jvm.Free.Multi.fill_inner (T.setVm vm₁) (Z.cy (a + 6)) (Z.cy a) x.toNatClampNeg y.toNatClampNeg (defaultValue (zty a)) x.toNatClampNeg j hj
          rw [hF, hTh] at this
          rw [this]
          have ha2 : a = 0 ∨ a = 1 := by omega
          rcases ha2 with rfl | rfl
          · cases hg
            exact congrArg some (arrV_new _ _ _)
          · cases hg
            exact congrArg some (arrV_new _ _ _)
        have hout : F.heap[H.size]? = some (arrV (Z.cy (a + 6)) x.toNatClampNeg (fun j => va_rf (if j < x.toNatClampNeg then some (H.size + 1 + j) else none))) := by
          rw [f2]
          exact congrArg some (vr_outer (Z.cy (a + 6)) x.toNatClampNeg H.size x.toNatClampNeg)
        have hHR : zHR Z (zmf f n0 x.toNatClampNeg y.toNatClampNeg a g) (some (n0 + (1 + x.toNatClampNeg)), k0 + (1 + x.toNatClampNeg), s0 + (x.toNatClampNeg + x.toNatClampNeg * y.toNatClampNeg)) F.heap := by
          obtain ⟨N, g1, g2, g3, g4, g5⟩ := hh
          obtain ⟨rfl, hz⟩ := g5 n0 rfl
          refine ⟨N + 1 + x.toNatClampNeg, fun i => ?_, fun k9 q9 hk9 => ?_, ?_, fun j t y' hj hy => ?_, fun n' hn' => by cases hn'; exact ⟨by omega, by omega⟩⟩
          · simp only [zmf]
            by_cases hi : i = N + 1
            · subst hi; simp; omega
            · rw [if_neg hi]
              by_cases hi2 : N + 1 < i ∧ i ≤ N + 1 + x.toNatClampNeg
              · rw [if_pos hi2]
                simp; omega
              · rw [if_neg hi2, g1]
                congr 1
                exact propext ⟨fun h => by omega, fun h => by omega⟩
          · obtain ⟨hlt, rfl⟩ := zws_get hk9
            simp only [zmf]
            by_cases hi : k9 = N
            · subst hi
              simp only [if_true, Option.getD_some]
              show F.heap[Z.o + k9]? = some (vp_cell (Z.cy (a + 6)) (x.toNatClampNeg, _))
              rw [← hz, hout, vp_cell_q]
              refine congrArg some (congrArg (arrV _ _) (funext fun j => ?_))
              by_cases hj : j < x.toNatClampNeg
              · simp only [if_pos hj, Option.map_some]
                simp only [zad, show k9 + 1 + 1 + j = (k9 + 1 + j) + 1 by omega]
                rw [hz]
                congr 2
                omega
              · simp only [if_neg hj, Option.map_none]
            · by_cases hi2 : N < k9
              · rw [if_neg (by omega), if_pos (by omega)]
                have := hrow (k9 - (N + 1)) (by omega)
                rw [show H.size + 1 + (k9 - (N + 1)) = Z.o + k9 by omega] at this
                show F.heap[Z.o + k9]? = some (vp_cell (Z.cy a) (zca Z (y.toNatClampNeg, g)))
                rw [this]
                have ha2 : a = 0 ∨ a = 1 := by omega
                rcases ha2 with rfl | rfl <;> cases hg <;> rfl
              · rw [if_neg (by omega), if_neg (by omega)]
                have hk0 : (zws Z f N)[k9]? = some (Z.o + k9, zce Z ((f (k9 + 1)).getD (.inr (0, [])))) := by
                  simp [zws, show k9 < N by omega]
                exact (g2 k9 _ hk0).kept (hold _ ((g2 k9 _ hk0).lt))
          · simp only [zmf]
            rw [if_neg (by omega), if_neg (by omega)]
            exact g3
          · simp only [zmf] at hy
            by_cases hi : j = N + 1
            · rw [if_pos hi] at hy
              cases hy; omega
            · rw [if_neg hi] at hy
              by_cases hi2 : N + 1 < j ∧ j ≤ N + 1 + x.toNatClampNeg
              · rw [if_pos hi2] at hy
                cases hy; omega
              · rw [if_neg hi2] at hy
                exact g4 j t y' hj hy
        have kk := k F.heap locs LS hl hHR (z_Sgrow hs (by omega) hold) (by dsimp only; omega) (by dsimp only; omega)
        rw [show (k0 + (1 + x.toNatClampNeg) - K0) = k0 - K0 + 1 + x.toNatClampNeg by omega, show (s0 + (x.toNatClampNeg + x.toNatClampNeg * y.toNatClampNeg) - S0) = s0 - S0 + x.toNatClampNeg + x.toNatClampNeg * y.toNatClampNeg by omega] at kk
        obtain ⟨t, a1, b1⟩ := kk F rfl X'
        refine ⟨t, step t ?_, b1⟩
        have e : T.heap.size = zad Z n0 := by rw [hT, hn0]
        rw [e]
        exact a1
      · rw [if_neg hq] at h; cases h
    · cases h
  · cases h

end ZS
