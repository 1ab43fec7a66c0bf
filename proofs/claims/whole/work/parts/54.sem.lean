/-! MATHS: patterns as trees (a type of Lean's own serves: num 0 is NOTHING, another num EMPTY, var x LETTER, neg OPTION, mulL REPEAT, sub CHAIN, add EITHER; mulR is not used, and stands for NOTHING) -/
abbrev zE := Int.Internal.Linear.Expr
def mt : zE → List Nat → Prop
  | .num v, w => v ≠ 0 ∧ w = []
  | .var x, w => w = [x]
  | .neg p, w => w = [] ∨ mt p w
  | .mulL _ p, w => ∃ ws : List (List Nat), (∀ u ∈ ws, mt p u) ∧ w = ws.flatten
  | .mulR _ _, _ => False
  | .sub p q, w => ∃ u v, w = u ++ v ∧ mt p u ∧ mt q v
  | .add p q, w => mt p w ∨ mt q w
def sz : zE → Nat
  | .num _ => 1
  | .var _ => 1
  | .neg p => sz p + 1
  | .mulL _ p => sz p + 1
  | .mulR _ _ => 1
  | .sub p q => sz p + sz q + 1
  | .add p q => sz p + sz q + 1
/-- the nodes: kind, letter, size -/
def nd : zE → List (Nat × Nat × Nat)
  | .num v => [(if v = 0 then 0 else 1, 0, 1)]
  | .var x => [(2, x, 1)]
  | .neg p => (3, 0, sz p + 1) :: nd p
  | .mulL _ p => (4, 0, sz p + 1) :: nd p
  | .mulR _ _ => [(0, 0, 1)]
  | .sub p q => (5, 0, sz p + sz q + 1) :: (nd p ++ nd q)
  | .add p q => (6, 0, sz p + sz q + 1) :: (nd p ++ nd q)
def ltr (x : Nat) : Prop := 97 ≤ x ∧ x ≤ 99
theorem ltr_get {x : Nat} (h : ltr x) : 97 ≤ x ∧ x ≤ 99 := h
/-- its letters are letters -/
def gl : zE → Prop
  | .num _ => True
  | .var x => ltr x
  | .neg p => gl p
  | .mulL _ p => gl p
  | .mulR _ _ => True
  | .sub p q => gl p ∧ gl q
  | .add p q => gl p ∧ gl q
theorem nd_len : ∀ t, (nd t).length = sz t
  | .num _ => rfl
  | .var _ => rfl
  | .neg p => by show (nd p).length + 1 = _; rw [nd_len p]; rfl
  | .mulL _ p => by show (nd p).length + 1 = _; rw [nd_len p]; rfl
  | .mulR _ _ => rfl
  | .sub p q => by show (nd p ++ nd q).length + 1 = _; rw [List.length_append, nd_len p, nd_len q]; rfl
  | .add p q => by show (nd p ++ nd q).length + 1 = _; rw [List.length_append, nd_len p, nd_len q]; rfl
theorem nd_head (t : zE) : ∃ k x r, nd t = (k, x, sz t) :: r := by
  cases t with
  | num v => exact ⟨_, _, _, rfl⟩
  | var v => exact ⟨_, _, _, rfl⟩
  | neg p => exact ⟨_, _, _, rfl⟩
  | mulL k p => exact ⟨_, _, _, rfl⟩
  | mulR p k => exact ⟨_, _, _, rfl⟩
  | sub p q => exact ⟨_, _, _, rfl⟩
  | add p q => exact ⟨_, _, _, rfl⟩
theorem sz_pos (t : zE) : 1 ≤ sz t := by
  cases t <;> unfold sz <;> omega
/-! parts of a word -/
section
variable {l u v : List Nat} {a b c s e x k : Nat} {p q : zE} {z : Int}
theorem wsl_len (h : b ≤ l.length) : (wsl l a b).length = b - a := by
  unfold wsl
  rw [List.length_drop, List.length_take]; omega
theorem wsl_app (hab : a ≤ b) (hbc : b ≤ c) (hc : c ≤ l.length) : wsl l a c = wsl l a b ++ wsl l b c := by
  unfold wsl
  have h1 := List.take_append_drop b (l.take c)
  rw [List.take_take, Nat.min_eq_left hbc] at h1
  have h2 : a ≤ (l.take b).length := by rw [List.length_take]; omega
  have h3 := List.drop_append_of_le_length (l₂ := (l.take c).drop b) h2
  rw [h1] at h3
  exact h3
theorem wsl_split (hac : a ≤ c) (hc : c ≤ l.length) (h : wsl l a c = u ++ v) : ∃ b, a ≤ b ∧ b ≤ c ∧ u = wsl l a b ∧ v = wsl l b c := by
  have h1 := congrArg List.length h
  rw [wsl_len hc, List.length_append] at h1
  have h2 := wsl_app (l := l) (a := a) (b := a + u.length) (c := c) (by omega) (by omega) hc
  rw [h] at h2
  have h3 := List.append_inj h2 (by rw [wsl_len (by omega)]; omega)
  exact ⟨a + u.length, by omega, by omega, h3.1, h3.2⟩
theorem wsl_full : wsl l 0 l.length = l := by unfold wsl; rw [List.take_length, List.drop_zero]
theorem wsl_self (hb : b ≤ l.length) : wsl l b b = [] := List.length_eq_zero_iff.mp (by rw [wsl_len hb]; omega)
theorem wsl_nil (hb : b ≤ l.length) : wsl l a b = [] ↔ b ≤ a := by
  rw [← List.length_eq_zero_iff, wsl_len hb]; omega
theorem wsl_succ (ha : a < l.length) : wsl l a (a + 1) = [l[a]] := by
  unfold wsl
  rw [← List.take_append_getElem ha]
  exact List.drop_left' (by rw [List.length_take]; omega)
theorem wsl_one (hb : b ≤ l.length) : wsl l a b = [x] ↔ b = a + 1 ∧ ∃ h : a < l.length, l[a] = x := by
  constructor
  · intro h
    have h1 := congrArg List.length h
    rw [wsl_len hb, List.length_singleton] at h1
    obtain rfl : b = a + 1 := by omega
    have ha : a < l.length := by omega
    rw [wsl_succ ha] at h
    exact ⟨rfl, ha, by cases h; rfl⟩
  · rintro ⟨rfl, ha, rfl⟩
    exact wsl_succ ha
theorem mt_sub (hs : s ≤ e) (he : e ≤ l.length) : mt (.sub p q) (wsl l s e) ↔ ∃ t, s ≤ t ∧ t ≤ e ∧ mt p (wsl l s t) ∧ mt q (wsl l t e) := by
  constructor
  · rintro ⟨u, v, h, hp, hq⟩
    obtain ⟨b, h1, h2, rfl, rfl⟩ := wsl_split hs he h
    exact ⟨b, h1, h2, hp, hq⟩
  · rintro ⟨t, h1, h2, hp, hq⟩
    exact ⟨_, _, wsl_app h1 h2 he, hp, hq⟩
theorem st_iff {w : List Nat} : mt (.mulL z p) w ↔ w = [] ∨ ∃ u v, u ≠ [] ∧ w = u ++ v ∧ mt p u ∧ mt (.mulL z p) v := by
  constructor
  · rintro ⟨ws, h, rfl⟩
    induction ws with
    | nil => exact Or.inl rfl
    | cons u ws ih =>
      have h1 : ∀ x ∈ ws, mt p x := fun x hx => h x (List.mem_cons_of_mem _ hx)
      by_cases hu : u = []
      · rw [List.flatten_cons, hu, List.nil_append]
        exact ih h1
      · exact Or.inr ⟨u, ws.flatten, hu, List.flatten_cons, h u List.mem_cons_self, ws, h1, rfl⟩
  · rintro (rfl | ⟨u, v, -, rfl, hu, ws, h, rfl⟩)
    · exact ⟨[], fun u hu => (by cases hu), rfl⟩
    · refine ⟨u :: ws, fun x hx => ?_, List.flatten_cons.symm⟩
      rcases List.mem_cons.mp hx with rfl | hx
      · exact hu
      · exact h x hx
theorem mt_star (hs : s ≤ e) (he : e ≤ l.length) : mt (.mulL z p) (wsl l s e) ↔ s = e ∨ ∃ t, s < t ∧ t ≤ e ∧ mt p (wsl l s t) ∧ mt (.mulL z p) (wsl l t e) := by
  rw [st_iff, wsl_nil he]
  constructor
  · rintro (h | ⟨u, v, hu, h, hp, hv⟩)
    · exact Or.inl (by omega)
    · obtain ⟨b, h1, h2, rfl, rfl⟩ := wsl_split hs he h
      rw [Ne, wsl_nil (by omega)] at hu
      exact Or.inr ⟨b, by omega, h2, hp, hv⟩
  · rintro (h | ⟨t, h1, h2, hp, hv⟩)
    · exact Or.inl (by omega)
    · refine Or.inr ⟨_, _, ?_, wsl_app (by omega) h2 he, hp, hv⟩
      rw [Ne, wsl_nil (by omega)]; omega
theorem tb_0 (x i : Nat) : x / 2 ^ i % 2 = 0 ↔ ¬ x.testBit i = true := by
  rw [Nat.testBit_eq_decide_div_mod_eq, decide_eq_true_eq]; omega
theorem eb_bit {E : Nat → Nat → Nat} {node : Int} {starts e : Nat} : ∀ k, (eb E node starts k).testBit e = true ↔ ∃ s, s < k ∧ starts.testBit s = true ∧ (ef E node s).testBit e = true
  | 0 => by
    unfold eb
    rw [Nat.zero_testBit]
    exact ⟨fun h => (by cases h), fun ⟨s, h, _⟩ => by cases h⟩
  | k + 1 => by
    have ih := eb_bit (E := E) (node := node) (starts := starts) (e := e) k
    unfold eb
    split
    · rename_i h0
      rw [tb_0] at h0
      rw [ih]
      constructor
      · rintro ⟨s, h1, h2⟩; exact ⟨s, by omega, h2⟩
      · rintro ⟨s, h1, h2⟩
        by_cases hs : s = k
        · subst hs; exact absurd h2.1 h0
        · exact ⟨s, by omega, h2⟩
    · rename_i h0
      rw [tb_0, Classical.not_not] at h0
      rw [Nat.testBit_or, Bool.or_eq_true, ih]
      constructor
      · rintro (⟨s, h1, h2⟩ | h)
        · exact ⟨s, by omega, h2⟩
        · exact ⟨k, by omega, h0, h⟩
      · rintro ⟨s, h1, h2⟩
        by_cases hs : s = k
        · subst hs; exact Or.inr h2.2
        · exact Or.inl ⟨s, by omega, h2⟩
theorem ef_in {E : Nat → Nat → Nat} {o s : Nat} (ho : o < 60) (hs : s < 7) : ef E (o : Int) (s : Int) = E o s := by
  unfold ef
  rw [if_pos (by omega)]; rfl
end
/-! the nodes in arrays -/
def rep (K L Z : Nat → Int) (o : Nat) (ns : List (Nat × Nat × Nat)) : Prop := ∀ i, i < ns.length → K (o + i) = ((ns.getD i (0, 0, 0)).1 : Nat) ∧ L (o + i) = ((ns.getD i (0, 0, 0)).2.1 : Nat) ∧ Z (o + i) = ((ns.getD i (0, 0, 0)).2.2 : Nat)
theorem rep_cons {K L Z : Nat → Int} {o : Nat} {a : Nat × Nat × Nat} {ns : List (Nat × Nat × Nat)} : rep K L Z o (a :: ns) ↔ (K o = (a.1 : Nat) ∧ L o = (a.2.1 : Nat) ∧ Z o = (a.2.2 : Nat)) ∧ rep K L Z (o + 1) ns := by
  constructor
  · intro h
    refine ⟨h 0 (Nat.zero_lt_succ _), fun i hi => ?_⟩
    have := h (i + 1) (Nat.succ_lt_succ hi)
    rw [show o + (i + 1) = o + 1 + i by omega] at this
    exact this
  · rintro ⟨h0, h⟩ i hi
    cases i with
    | zero => exact h0
    | succ i =>
      have := h i (Nat.lt_of_succ_lt_succ hi)
      rw [show o + (i + 1) = o + 1 + i by omega]
      exact this
theorem rep_app {K L Z : Nat → Int} {ys : List (Nat × Nat × Nat)} : ∀ (xs : List (Nat × Nat × Nat)) (o : Nat), rep K L Z o (xs ++ ys) ↔ rep K L Z o xs ∧ rep K L Z (o + xs.length) ys
  | [], o => ⟨fun h => ⟨fun i hi => (by cases hi), h⟩, fun h => h.2⟩
  | a :: xs, o => by
    rw [List.cons_append, rep_cons, rep_cons, rep_app xs (o + 1), List.length_cons, show o + (xs.length + 1) = o + 1 + xs.length by omega]
    exact and_assoc.symm
/-! the class's ends -/
def rowok (l : List Nat) (E : Nat → Nat → Nat) (o : Nat) (t : zE) : Prop := ∀ s, s ≤ l.length → ∀ e, (E o s).testBit e = true ↔ (s ≤ e ∧ e ≤ l.length ∧ mt t (wsl l s e))
section
variable {n len node start : Nat} {K L Z LT : Nat → Int} {E E0 : Nat → Nat → Nat} {l : List Nat}
theorem eo_0 (h : K node = ((0 : Nat) : Int)) : eo n len K L Z LT E node start = 0 := by unfold eo; simp [h]
theorem eo_1 (h : K node = ((1 : Nat) : Int)) : eo n len K L Z LT E node start = 2 ^ start := by unfold eo; simp [h]
theorem eo_2 (h : K node = ((2 : Nat) : Int)) : eo n len K L Z LT E node start = if start < len ∧ LT start = L node then 2 ^ start * 2 else 0 := by unfold eo; simp [h]
theorem eo_3 (h : K node = ((3 : Nat) : Int)) : eo n len K L Z LT E node start = 2 ^ start ||| ef E ((node : Int) + 1) start := by unfold eo; simp [h]
theorem eo_4 (h : K node = ((4 : Nat) : Int)) : eo n len K L Z LT E node start = 2 ^ start ||| eb E node (ef E ((node : Int) + 1) start &&& (ef E ((node : Int) + 1) start ^^^ 2 ^ start)) (len + 1) := by unfold eo; simp [h]
theorem eo_5 (h : K node = ((5 : Nat) : Int)) : eo n len K L Z LT E node start = eb E (sec n Z node) (ef E ((node : Int) + 1) start) (len + 1) := by unfold eo; simp [h]
theorem eo_6 (h : K node = ((6 : Nat) : Int)) : eo n len K L Z LT E node start = ef E ((node : Int) + 1) start ||| ef E (sec n Z node) start := by unfold eo; simp [h]
theorem es_inv (P : Nat → Nat → Prop) (hstep : ∀ s, s ≤ len → ∀ E', (∀ i s', i ≠ node → E' i s' = E0 i s') → (∀ s', s < s' → s' ≤ len → P s' (E' node s')) → P s (eo n len K L Z LT E' node s)) : ∀ k E, k ≤ len + 1 → (∀ i s', i ≠ node → E i s' = E0 i s') → (∀ s', k ≤ s' → s' ≤ len → P s' (E node s')) → (∀ i s', i ≠ node → Es n len K L Z LT node k E i s' = E0 i s') ∧ ∀ s, s ≤ len → P s (Es n len K L Z LT node k E node s) := by
  intro k
  induction k with
  | zero => intro E _ hE hP; exact ⟨hE, fun s hs => hP s (Nat.zero_le _) hs⟩
  | succ k ih =>
    intro E hk hE hP
    refine ih _ (by omega) ?_ ?_
    · intro i s' hi
      unfold upE
      rw [if_neg (fun z => hi z.1)]
      exact hE i s' hi
    · intro s' h1 h2
      by_cases h : s' = k
      · subst h
        unfold upE
        rw [if_pos ⟨rfl, rfl⟩]
        exact hstep s' h2 E hE (fun s2 h3 h4 => hP s2 (by omega) h4)
      · unfold upE
        rw [if_neg (fun z => h z.2)]
        exact hP s' (by omega) h2
theorem rowok_of {o : Nat} {t : zE} {E E' : Nat → Nat → Nat} (h : rowok l E o t) (he : ∀ s, E' o s = E o s) : rowok l E' o t := fun s hs e => by rw [he]; exact h s hs e
/-- one node, when its parts are known -/
theorem en_node {t : zE} {o : Nat} (hl : l.length = len) (hE : ∀ s, s ≤ len → ∀ E', (∀ i s', i ≠ o → E' i s' = E i s') → (∀ s', s < s' → s' ≤ len → ∀ e, (E' o s').testBit e = true ↔ (s' ≤ e ∧ e ≤ len ∧ mt t (wsl l s' e))) → ∀ e, (eo n len K L Z LT E' o s).testBit e = true ↔ (s ≤ e ∧ e ≤ len ∧ mt t (wsl l s e))) : ∃ E', En n len K L Z LT (o + 1) E = En n len K L Z LT o E' ∧ rowok l E' o t ∧ ∀ i s, i ≠ o → E' i s = E i s := by
  have := es_inv (n := n) (len := len) (K := K) (L := L) (Z := Z) (LT := LT) (node := o) (E0 := E) (fun s x => ∀ e, x.testBit e = true ↔ (s ≤ e ∧ e ≤ len ∧ mt t (wsl l s e))) hE (len + 1) E (Nat.le_refl _) (fun _ _ _ => rfl) (fun s' h1 h2 => by omega)
  refine ⟨Es n len K L Z LT o (len + 1) E, rfl, ?_, this.1⟩
  intro s hs e
  rw [hl] at hs ⊢
  exact this.2 s hs e
theorem en_tree (hn : n ≤ 60) (hl : l.length = len) (hlen : len ≤ 6) (hLT : ∀ j (h : j < l.length), LT j = ((l[j] : Nat) : Int)) : ∀ (t : zE) (o : Nat) (E : Nat → Nat → Nat), rep K L Z o (nd t) → o + sz t ≤ n → ∃ E', En n len K L Z LT (o + sz t) E = En n len K L Z LT o E' ∧ rowok l E' o t ∧ ∀ i s, (i < o ∨ o + sz t ≤ i) → E' i s = E i s := by
  have leaf : ∀ (t : zE) (o : Nat) (E : Nat → Nat → Nat), sz t = 1 → (∀ s, s ≤ len → ∀ E' : Nat → Nat → Nat, ∀ e, (eo n len K L Z LT E' o s).testBit e = true ↔ (s ≤ e ∧ e ≤ len ∧ mt t (wsl l s e))) → ∃ E', En n len K L Z LT (o + sz t) E = En n len K L Z LT o E' ∧ rowok l E' o t ∧ ∀ i s, (i < o ∨ o + sz t ≤ i) → E' i s = E i s := by
    intro t o E h1 h2
    obtain ⟨E', e1, e2, e3⟩ := en_node (n := n) (K := K) (L := L) (Z := Z) (LT := LT) (E := E) (o := o) (t := t) hl (fun s hs E' _ _ => h2 s hs E')
    rw [h1]
    exact ⟨E', e1, e2, fun i s hi => e3 i s (by omega)⟩
  intro t
  induction t with
  | num v =>
    intro o E hr ho
    obtain ⟨⟨k1, -, -⟩, -⟩ := rep_cons.mp hr
    refine leaf _ o E rfl (fun s hs E' e => ?_)
    by_cases hv : v = 0
    · rw [show (if v = 0 then 0 else 1 : Nat) = 0 from if_pos hv] at k1
      rw [eo_0 k1, Nat.zero_testBit]
      exact ⟨fun h => (by cases h), fun h => absurd hv h.2.2.1⟩
    · rw [show (if v = 0 then 0 else 1 : Nat) = 1 from if_neg hv] at k1
      rw [eo_1 k1, Nat.testBit_two_pow, decide_eq_true_eq]
      constructor
      · rintro rfl; exact ⟨Nat.le_refl _, hs, hv, wsl_self (by omega)⟩
      · rintro ⟨h1, h2, -, h3⟩
        rw [wsl_nil (by omega)] at h3; omega
  | var x =>
    intro o E hr ho
    obtain ⟨⟨k1, k2, -⟩, -⟩ := rep_cons.mp hr
    refine leaf _ o E rfl (fun s hs E' e => ?_)
    rw [eo_2 k1]
    show _ ↔ (s ≤ e ∧ e ≤ len ∧ wsl l s e = [x])
    have e2 : 2 ^ s * 2 = 2 ^ (s + 1) := (Nat.pow_succ 2 s).symm
    by_cases hc : s < len ∧ LT s = L o
    · rw [if_pos hc, e2, Nat.testBit_two_pow, decide_eq_true_eq]
      obtain ⟨hc1, hc2⟩ := hc
      have hsl : s < l.length := by omega
      rw [hLT s hsl, k2] at hc2
      have hc3 : l[s] = x := by have := Int.ofNat.inj hc2; exact this
      constructor
      · rintro rfl; exact ⟨by omega, by omega, (wsl_one (by omega)).mpr ⟨rfl, hsl, hc3⟩⟩
      · rintro ⟨h1, h2, h3⟩
        exact ((wsl_one (by omega)).mp h3).1.symm
    · rw [if_neg hc, Nat.zero_testBit]
      refine ⟨fun h => (by cases h), ?_⟩
      rintro ⟨h1, h2, h3⟩
      obtain ⟨rfl, ha, h4⟩ := (wsl_one (by omega)).mp h3
      exact absurd ⟨by omega, by rw [hLT s ha, k2, h4]⟩ hc
  | mulR p z ih =>
    intro o E hr ho
    obtain ⟨⟨k1, -, -⟩, -⟩ := rep_cons.mp hr
    refine leaf _ o E rfl (fun s hs E' e => ?_)
    rw [eo_0 k1, Nat.zero_testBit]
    exact ⟨fun h => (by cases h), fun h => absurd h.2.2 id⟩
  | neg p ih =>
    intro o E hr ho
    obtain ⟨⟨k1, -, -⟩, hr1⟩ := rep_cons.mp hr
    have ho' : o + (sz p + 1) ≤ n := ho
    have hsp := sz_pos p
    obtain ⟨E1, a1, a2, a3⟩ := ih (o + 1) E hr1 (by omega)
    obtain ⟨E2, b1, b2, b3⟩ := en_node (n := n) (K := K) (L := L) (Z := Z) (LT := LT) (E := E1) (o := o) (t := .neg p) hl (fun s hs E' h1 _ e => by
      rw [eo_3 k1, show ((o : Int) + 1) = ((o + 1 : Nat) : Int) from rfl, ef_in (by omega) (by omega), h1 _ _ (by omega), Nat.testBit_or, Bool.or_eq_true, Nat.testBit_two_pow, decide_eq_true_eq, a2 s (by omega) e, hl]
      show _ ↔ (s ≤ e ∧ e ≤ len ∧ (wsl l s e = [] ∨ mt p (wsl l s e)))
      constructor
      · rintro (rfl | ⟨c1, c2, c3⟩)
        · exact ⟨Nat.le_refl _, hs, Or.inl (wsl_self (by omega))⟩
        · exact ⟨c1, c2, Or.inr c3⟩
      · rintro ⟨c1, c2, c3 | c3⟩
        · rw [wsl_nil (by omega)] at c3; exact Or.inl (by omega)
        · exact Or.inr ⟨c1, c2, c3⟩)
    refine ⟨E2, ?_, b2, fun i s hi => ?_⟩
    · rw [← b1, ← a1]; show En n len K L Z LT (o + (sz p + 1)) E = _; rw [show o + (sz p + 1) = o + 1 + sz p by omega]
    · have hi' : i < o ∨ o + (sz p + 1) ≤ i := hi
      rw [b3 i s (by omega), a3 i s (by omega)]
  | mulL z p ih =>
    intro o E hr ho
    obtain ⟨⟨k1, -, -⟩, hr1⟩ := rep_cons.mp hr
    have ho' : o + (sz p + 1) ≤ n := ho
    have hsp := sz_pos p
    obtain ⟨E1, a1, a2, a3⟩ := ih (o + 1) E hr1 (by omega)
    obtain ⟨E2, b1, b2, b3⟩ := en_node (n := n) (K := K) (L := L) (Z := Z) (LT := LT) (E := E1) (o := o) (t := .mulL z p) hl (fun s hs E' h1 h2 e => by
      rw [eo_4 k1, show ((o : Int) + 1) = ((o + 1 : Nat) : Int) from rfl, ef_in (by omega) (by omega), h1 _ _ (by omega), Nat.testBit_or, Bool.or_eq_true, Nat.testBit_two_pow, decide_eq_true_eq, eb_bit]
      constructor
      · rintro (rfl | ⟨t, c1, c2, c3⟩)
        · exact ⟨Nat.le_refl _, hs, (mt_star (Nat.le_refl _) (by omega)).mpr (Or.inl rfl)⟩
        · rw [Nat.testBit_and, Bool.and_eq_true, Nat.testBit_xor, Nat.testBit_two_pow] at c2
          obtain ⟨c4, c5⟩ := c2
          rw [c4] at c5
          have c6 : s ≠ t := fun z => by rw [decide_eq_true z] at c5; cases c5
          obtain ⟨c7, c8, c9⟩ := (a2 s (by omega) t).mp c4
          rw [ef_in (by omega) (by omega)] at c3
          obtain ⟨c10, c11, c12⟩ := (h2 t (by omega) (by omega) e).mp c3
          exact ⟨by omega, c11, (mt_star (by omega) (by omega)).mpr (Or.inr ⟨t, by omega, c10, c9, c12⟩)⟩
      · rintro ⟨c1, c2, c3⟩
        rcases (mt_star c1 (by omega)).mp c3 with c4 | ⟨t, c4, c5, c6, c7⟩
        · exact Or.inl c4
        · refine Or.inr ⟨t, by omega, ?_, ?_⟩
          · have := (a2 s (by omega) t).mpr ⟨by omega, by omega, c6⟩
            rw [Nat.testBit_and, Nat.testBit_xor, Nat.testBit_two_pow, this, decide_eq_false (by omega)]; rfl
          · rw [ef_in (by omega) (by omega)]
            exact (h2 t c4 (by omega) e).mpr ⟨c5, c2, c7⟩)
    refine ⟨E2, ?_, b2, fun i s hi => ?_⟩
    · rw [← b1, ← a1]; show En n len K L Z LT (o + (sz p + 1)) E = _; rw [show o + (sz p + 1) = o + 1 + sz p by omega]
    · have hi' : i < o ∨ o + (sz p + 1) ≤ i := hi
      rw [b3 i s (by omega), a3 i s (by omega)]
  | sub p q ihp ihq =>
    intro o E hr ho
    obtain ⟨⟨k1, -, -⟩, hr1⟩ := rep_cons.mp hr
    obtain ⟨hrp, hrq⟩ := (rep_app _ _).mp hr1
    rw [nd_len] at hrq
    have ho' : o + (sz p + sz q + 1) ≤ n := ho
    obtain ⟨E1, a1, a2, a3⟩ := ihq (o + 1 + sz p) E hrq (by omega)
    obtain ⟨E3, d1, d2, d3⟩ := ihp (o + 1) E1 hrp (by omega)
    obtain ⟨kk, xx, rr, hh⟩ := nd_head p
    rw [hh] at hrp
    obtain ⟨⟨-, -, k2⟩, -⟩ := rep_cons.mp hrp
    have hsec : sec n Z o = ((o + 1 + sz p : Nat) : Int) := by
      unfold sec
      rw [if_pos (by have := sz_pos p; omega), k2]; rfl
    have hsp := sz_pos p
    have hsq := sz_pos q
    obtain ⟨E2, b1, b2, b3⟩ := en_node (n := n) (K := K) (L := L) (Z := Z) (LT := LT) (E := E3) (o := o) (t := .sub p q) hl (fun s hs E' h1 h2 e => by
      rw [eo_5 k1, hsec, show ((o : Int) + 1) = ((o + 1 : Nat) : Int) from rfl, ef_in (by omega) (by omega), h1 _ _ (by omega), eb_bit]
      constructor
      · rintro ⟨t, c1, c2, c3⟩
        rw [ef_in (by omega) (by omega), h1 _ _ (by omega), d3 _ _ (by omega)] at c3
        obtain ⟨c4, c5, c6⟩ := (d2 s (by omega) t).mp c2
        obtain ⟨c7, c8, c9⟩ := (a2 t (by omega) e).mp c3
        exact ⟨by omega, by omega, (mt_sub (by omega) (by omega)).mpr ⟨t, c4, c7, c6, c9⟩⟩
      · rintro ⟨c1, c2, c3⟩
        obtain ⟨t, c4, c5, c6, c7⟩ := (mt_sub c1 (by omega)).mp c3
        refine ⟨t, by omega, (d2 s (by omega) t).mpr ⟨c4, by omega, c6⟩, ?_⟩
        rw [ef_in (by omega) (by omega), h1 _ _ (by omega), d3 _ _ (by omega)]
        exact (a2 t (by omega) e).mpr ⟨c5, by omega, c7⟩)
    refine ⟨E2, ?_, b2, fun i s hi => ?_⟩
    · rw [← b1, ← d1, ← a1]; show En n len K L Z LT (o + (sz p + sz q + 1)) E = _; rw [show o + (sz p + sz q + 1) = o + 1 + sz p + sz q by omega]
    · have hi' : i < o ∨ o + (sz p + sz q + 1) ≤ i := hi
      rw [b3 i s (by omega), d3 i s (by omega), a3 i s (by omega)]
  | add p q ihp ihq =>
    intro o E hr ho
    obtain ⟨⟨k1, -, -⟩, hr1⟩ := rep_cons.mp hr
    obtain ⟨hrp, hrq⟩ := (rep_app _ _).mp hr1
    rw [nd_len] at hrq
    have ho' : o + (sz p + sz q + 1) ≤ n := ho
    obtain ⟨E1, a1, a2, a3⟩ := ihq (o + 1 + sz p) E hrq (by omega)
    obtain ⟨E3, d1, d2, d3⟩ := ihp (o + 1) E1 hrp (by omega)
    obtain ⟨kk, xx, rr, hh⟩ := nd_head p
    rw [hh] at hrp
    obtain ⟨⟨-, -, k2⟩, -⟩ := rep_cons.mp hrp
    have hsec : sec n Z o = ((o + 1 + sz p : Nat) : Int) := by
      unfold sec
      rw [if_pos (by have := sz_pos p; omega), k2]; rfl
    have hsp := sz_pos p
    have hsq := sz_pos q
    obtain ⟨E2, b1, b2, b3⟩ := en_node (n := n) (K := K) (L := L) (Z := Z) (LT := LT) (E := E3) (o := o) (t := .add p q) hl (fun s hs E' h1 h2 e => by
      rw [eo_6 k1, hsec, show ((o : Int) + 1) = ((o + 1 : Nat) : Int) from rfl, ef_in (by omega) (by omega), ef_in (by omega) (by omega), h1 _ _ (by omega), h1 _ _ (by omega), d3 (o + 1 + sz p) _ (by omega), Nat.testBit_or, Bool.or_eq_true, d2 s (by omega) e, a2 s (by omega) e, hl]
      show _ ↔ (s ≤ e ∧ e ≤ len ∧ (mt p (wsl l s e) ∨ mt q (wsl l s e)))
      constructor
      · rintro (⟨c1, c2, c3⟩ | ⟨c1, c2, c3⟩)
        · exact ⟨c1, c2, Or.inl c3⟩
        · exact ⟨c1, c2, Or.inr c3⟩
      · rintro ⟨c1, c2, c3 | c3⟩
        · exact Or.inl ⟨c1, c2, c3⟩
        · exact Or.inr ⟨c1, c2, c3⟩)
    refine ⟨E2, ?_, b2, fun i s hi => ?_⟩
    · rw [← b1, ← d1, ← a1]; show En n len K L Z LT (o + (sz p + sz q + 1)) E = _; rw [show o + (sz p + sz q + 1) = o + 1 + sz p + sz q by omega]
    · have hi' : i < o ∨ o + (sz p + sz q + 1) ≤ i := hi
      rw [b3 i s (by omega), d3 i s (by omega), a3 i s (by omega)]
/-- a pattern at p, of a tree -/
def pt (f : zF) (p : Nat) (t : zE) : Prop := ∃ K L Z : Nat → Int, pat f p (sz t) K L Z ∧ rep K L Z 0 (nd t) ∧ ∀ i, 0 ≤ L i ∧ L i < 256
end
