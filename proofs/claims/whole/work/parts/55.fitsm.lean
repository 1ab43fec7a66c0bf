/-! SPECS: a pattern fits a word, by what the tree matches -/
noncomputable def mb (t : zE) (l : List Nat) : Bool := @decide (mt t l) (Classical.propDecidable _)
theorem mb_iff {t : zE} {l : List Nat} : mb t l = true ↔ mt t l := @decide_eq_true_iff _ (Classical.propDecidable _)
theorem nd_bd : ∀ (t : zE), gl t → ∀ a ∈ nd t, a.1 < 7 ∧ a.2.2 ≤ sz t ∧ a.2.1 < 256 ∧ (a.1 = 2 → 97 ≤ a.2.1 ∧ a.2.1 ≤ 99) ∧ (a.1 ≠ 2 → a.2.1 = 0) ∧ 1 ≤ a.2.2
  | .num v, _, a, ha => by
    rw [show nd (.num v) = [(if v = 0 then 0 else 1, 0, 1)] from rfl, List.mem_singleton] at ha
    subst ha
    unfold sz
    dsimp only
    split <;> omega
  | .var x, hg, a, ha => by
    rw [show nd (.var x) = [(2, x, 1)] from rfl, List.mem_singleton] at ha
    subst ha
    have h1 := ltr_get (x := x) hg
    unfold sz
    dsimp only
    omega
  | .neg p, hg, a, ha => by
    rw [show sz (.neg p) = sz p + 1 from rfl]
    rcases List.mem_cons.mp ha with rfl | ha
    · dsimp only; omega
    · have := nd_bd p hg a ha
      omega
  | .mulL _ p, hg, a, ha => by
    rw [show sz (.mulL _ p) = sz p + 1 from rfl]
    rcases List.mem_cons.mp ha with rfl | ha
    · dsimp only; omega
    · have := nd_bd p hg a ha
      omega
  | .mulR p z, _, a, ha => by
    rw [show nd (.mulR p z) = [(0, 0, 1)] from rfl, List.mem_singleton] at ha
    subst ha
    unfold sz
    dsimp only
    omega
  | .sub p q, hg, a, ha => by
    rw [show sz (.sub p q) = sz p + sz q + 1 from rfl]
    rcases List.mem_cons.mp ha with rfl | ha
    · dsimp only; omega
    · rcases List.mem_append.mp ha with ha | ha
      · have := nd_bd p hg.1 a ha; omega
      · have := nd_bd q hg.2 a ha; omega
  | .add p q, hg, a, ha => by
    rw [show sz (.add p q) = sz p + sz q + 1 from rfl]
    rcases List.mem_cons.mp ha with rfl | ha
    · dsimp only; omega
    · rcases List.mem_append.mp ha with ha | ha
      · have := nd_bd p hg.1 a ha; omega
      · have := nd_bd q hg.2 a ha; omega
theorem nd_get {t : zE} {i : Nat} (h : i < sz t) : (nd t).getD i (0, 0, 0) ∈ nd t := by
  rw [← nd_len] at h
  rw [List.getD_eq_getElem?_getD, List.getElem?_eq_getElem h]
  exact List.getElem_mem h
theorem rep_bd {K L Z : Nat → Int} {t : zE} (hg : gl t) (h60 : sz t ≤ 60) (h : rep K L Z 0 (nd t)) : ∀ i, i < sz t → (0 ≤ K i ∧ K i < 7) ∧ (0 ≤ Z i ∧ Z i ≤ 60) ∧ (0 ≤ L i ∧ L i < 256) ∧ (K i = 2 → 97 ≤ L i ∧ L i ≤ 99) ∧ (K i ≠ 2 → L i = 0) ∧ 1 ≤ Z i := by
  intro i hi
  have h1 := h i (by rw [nd_len]; exact hi)
  have h2 := nd_bd t hg _ (nd_get hi)
  rw [Nat.zero_add] at h1
  rw [h1.1, h1.2.1, h1.2.2]
  generalize (nd t).getD i (0, 0, 0) = a at h2
  omega
def trok (f : zF) : Prop := ∃ len LT E, tri f len LT E ∧ (∀ i s, E i s < 128) ∧ ∀ i, 0 ≤ LT i ∧ LT i < 256
theorem trok_fre {a b : Nat} {f g : zF} (h : fre a b f g) (hab : 209 < a ∨ b < 147) (ht : trok f) : trok g := by
  obtain ⟨len, LT, E, ⟨h1, h2, h3, h4⟩, h5⟩ := ht
  exact ⟨len, LT, E, ⟨(h _ (by omega)).trans h1, (h _ (by omega)).trans h2, (h _ (by omega)).trans h3, fun i hi => (h _ (by omega)).trans (h4 i hi)⟩, h5⟩
theorem pt_fre {a b p : Nat} {f g : zF} {t : zE} (h : fre a b f g) (hp : p + 3 < a ∨ b < p) (ht : pt f p t) : pt g p t := by
  obtain ⟨K, L, Z, h1, h2⟩ := ht
  exact ⟨K, L, Z, fre_pat h h1 hp, h2⟩
theorem En_lt {n len : Nat} {K L Z LT : Nat → Int} (hl : len ≤ 6) : ∀ (i : Nat) (E : Nat → Nat → Nat), (∀ i s, E i s < 128) → ∀ j s, En n len K L Z LT i E j s < 128
  | 0, E, hE => hE
  | i + 1, E, hE => En_lt hl i _ (Es_lt hl (len + 1) E (Nat.le_refl _) hE)
section
variable {d p : Nat} {f : zF} {m : zM} {t : zE} {l : List Nat}
theorem s_fits (hd : 4 ≤ d) (ht : trok f) (hp : pt f p t) (hpd : 209 < p) (hg : gl t) (h60 : sz t ≤ 60) (hl : wgood l) (hl6 : l.length ≤ 6) : ∃ f', zrun zTb d 65 [.ref 147, .ref p, .long (J (wpk l))] f m = some (.inl (some (.int (I (if mb t l = true then 1 else 0)))), f', m) ∧ fre 147 209 f f' ∧ trok f' := by
  obtain ⟨len0, LT, E, htr, hE, hLT⟩ := ht
  obtain ⟨K, L, Z, hpat, hrep, hL⟩ := hp
  have hb := rep_bd hg h60 hrep
  have e := s_X7_fits (d := d) (f := f) (m := m) hd htr hE hl6 (wpk_wsz hl) hpat hpd h60 (fun i hi => (hb i hi).1) (fun i hi => (hb i hi).2.1) hLT hL
  have hsp : ∀ j (h : j < l.length), spl (wpk l) l.length LT j = ((l[j] : Nat) : Int) := by
    intro j h
    unfold spl pcp
    rw [if_pos h]
    show ((bt (wpk l) (8 * (l.length - 1 - j)) : Nat) : Int) = _
    rw [wpk_bt hl h]
  obtain ⟨E', a1, a2, a3⟩ := en_tree (n := sz t) (LT := spl (wpk l) l.length LT) h60 rfl hl6 hsp t 0 E hrep (by omega)
  rw [Nat.zero_add] at a1
  have a4 : En (sz t) l.length K L Z (spl (wpk l) l.length LT) (sz t) E = E' := a1
  have a5 := a2 0 (Nat.zero_le _) l.length
  rw [wsl_full] at a5
  have hspb : ∀ i, 0 ≤ spl (wpk l) l.length LT i ∧ spl (wpk l) l.length LT i < 256 := by
    intro i
    unfold spl pcp
    have := bt_lt (n := wpk l) (s := 8 * (l.length - 1 - i))
    split
    · dsimp only; omega
    · exact hLT i
  have ev : (if E' 0 0 / 2 ^ l.length % 2 = 0 then (0 : Int) else 1) = if mb t l = true then 1 else 0 := by
    by_cases hm : mt t l
    · rw [if_pos (mb_iff.mpr hm), if_neg]
      rw [tb_0, Classical.not_not]
      exact a5.mpr ⟨Nat.zero_le _, Nat.le_refl _, hm⟩
    · rw [if_neg (fun z => hm (mb_iff.mp z)), if_pos]
      rw [tb_0]
      exact fun z => hm (a5.mp z).2.2
  have hEl := En_lt (n := sz t) (len := l.length) (K := K) (L := L) (Z := Z) (LT := spl (wpk l) l.length LT) hl6 (sz t) E hE
  rw [a4] at e hEl
  rw [ev] at e
  exact ⟨_, e, fre_sett, ⟨_, _, _, tri_sett, hEl, hspb⟩⟩
end
