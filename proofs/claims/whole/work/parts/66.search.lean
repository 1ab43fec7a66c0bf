/-! MATHS: the search. A state: how many are kept, their entries (kind, first, second, price), their trees, and 0 go on, 1 found, 2 too many -/
abbrev zW := Nat × (Nat → Nat × Nat × Nat × Nat) × (Nat → zE) × Nat
noncomputable def rgt (X : Nat → List Nat) (G : Nat → Bool) (t : zE) : Nat → Bool
  | 0 => true
  | k + 1 => rgt X G t k && (mb t (X k) == G k)
theorem rgt_iff {X : Nat → List Nat} {G : Nat → Bool} {t : zE} : ∀ n, rgt X G t n = true ↔ ∀ k, k < n → mb t (X k) = G k
  | 0 => ⟨fun _ k hk => (by cases hk), fun _ => rfl⟩
  | n + 1 => by
    show (rgt X G t n && (mb t (X n) == G n)) = true ↔ _
    rw [Bool.and_eq_true, rgt_iff n, beq_iff_eq]
    constructor
    · rintro ⟨h1, h2⟩ k hk
      by_cases hkn : k = n
      · subst hkn; exact h2
      · exact h1 k (by omega)
    · intro h
      exact ⟨fun k hk => h k (by omega), h n (by omega)⟩
noncomputable def hasT (P : Nat → List Nat) (np : Nat) (T : Nat → zE) (x : Nat) : Nat → Bool
  | 0 => false
  | k + 1 => hasT P np T x k || (tbn P (T k) np == x)
theorem hasT_iff {P : Nat → List Nat} {np x : Nat} {T : Nat → zE} : ∀ n, hasT P np T x n = true ↔ ∃ k, k < n ∧ tbn P (T k) np = x
  | 0 => ⟨fun h => (by cases h), fun ⟨k, hk, _⟩ => by cases hk⟩
  | n + 1 => by
    show (hasT P np T x n || (tbn P (T n) np == x)) = true ↔ _
    rw [Bool.or_eq_true, hasT_iff n, beq_iff_eq]
    constructor
    · rintro (⟨k, h1, h2⟩ | h)
      · exact ⟨k, by omega, h2⟩
      · exact ⟨n, by omega, h⟩
    · rintro ⟨k, h1, h2⟩
      by_cases hkn : k = n
      · subst hkn; exact Or.inr h2
      · exact Or.inl ⟨k, by omega, h2⟩
noncomputable def zoff (P : Nat → List Nat) (np nX : Nat) (X : Nat → List Nat) (G : Nat → Bool) (k a b pr : Nat) (s : zW) : zW :=
  if s.2.2.2 ≠ 0 then s
  else if hasT P np s.2.2.1 (tbn P (mkT s.2.2.1 k a b) np) s.1 = true then s
  else if s.1 = 120 then (s.1, s.2.1, s.2.2.1, 2)
  else (s.1 + 1, zst s.2.1 s.1 (k, a, b, pr), zst s.2.2.1 s.1 (mkT s.2.2.1 k a b), if rgt X G (mkT s.2.2.1 k a b) nX = true then 1 else 0)
/-- the offers of a kind of one part: those of the first patterns -/
def zwr (o : Nat → Nat → Nat → Nat → zW → zW) (E : Nat → Nat × Nat × Nat × Nat) (k c pr : Nat) : Nat → zW → zW
  | 0, s => s
  | p + 1, s => if (E p).2.2.2 + c = pr then o k p 0 pr (zwr o E k c pr p s) else zwr o E k c pr p s
def zjq (o : Nat → Nat → Nat → Nat → zW → zW) (E : Nat → Nat × Nat × Nat × Nat) (k c pr p : Nat) : Nat → zW → zW
  | 0, s => s
  | q + 1, s => if (E p).2.2.2 + (E q).2.2.2 + c = pr then o k p q pr (zjq o E k c pr p q s) else zjq o E k c pr p q s
def zjo (o : Nat → Nat → Nat → Nat → zW → zW) (E : Nat → Nat × Nat × Nat × Nat) (k c pr N : Nat) : Nat → zW → zW
  | 0, s => s
  | p + 1, s => zjq o E k c pr p N (zjo o E k c pr N p s)
def zlv (o : Nat → Nat → Nat → Nat → zW → zW) (C : Nat → Nat) (pr : Nat) (s : zW) : zW :=
  let s1 := if C 0 = pr then o 0 0 0 pr s else s
  let s2 := if C 1 = pr then o 1 0 0 pr s1 else s1
  if C 2 = pr then o 2 99 0 pr (o 2 98 0 pr (o 2 97 0 pr s2)) else s2
/-- all kinds from 3 up to one -/
def zkd (o : Nat → Nat → Nat → Nat → zW → zW) (C : Nat → Nat) (pr N : Nat) (E : Nat → Nat × Nat × Nat × Nat) : Nat → zW → zW
  | 0, s => s
  | j + 1, s => if j < 2 then zwr o E (j + 3) (C (j + 3)) pr N (zkd o C pr N E j s) else zjo o E (j + 3) (C (j + 3)) pr N N (zkd o C pr N E j s)
def zgo (o : Nat → Nat → Nat → Nat → zW → zW) (C : Nat → Nat) (pr : Nat) (s : zW) : zW := zkd o C pr s.1 s.2.1 4 (zlv o C pr s)
def zse (o : Nat → Nat → Nat → Nat → zW → zW) (C : Nat → Nat) : Nat → zW
  | 0 => (0, fun _ => (0, 0, 0, 0), fun _ => .num 0, 0)
  | pr + 1 => zgo o C (pr + 1) (zse o C pr)
def idl (o : Nat → Nat → Nat → Nat → zW → zW) : Prop := ∀ k a b pr s, s.2.2.2 ≠ 0 → o k a b pr s = s
section
variable {o : Nat → Nat → Nat → Nat → zW → zW} {E : Nat → Nat × Nat × Nat × Nat} {k c pr N p : Nat} {s : zW} {C : Nat → Nat}
theorem zwr_s : zwr o E k c pr (p + 1) s = if (E p).2.2.2 + c = pr then o k p 0 pr (zwr o E k c pr p s) else zwr o E k c pr p s := rfl
theorem zjq_s {q : Nat} : zjq o E k c pr p (q + 1) s = if (E p).2.2.2 + (E q).2.2.2 + c = pr then o k p q pr (zjq o E k c pr p q s) else zjq o E k c pr p q s := rfl
theorem zkd_s {j : Nat} : zkd o C pr N E (j + 1) s = if j < 2 then zwr o E (j + 3) (C (j + 3)) pr N (zkd o C pr N E j s) else zjo o E (j + 3) (C (j + 3)) pr N N (zkd o C pr N E j s) := rfl
theorem zoff_idl {P : Nat → List Nat} {np nX : Nat} {X : Nat → List Nat} {G : Nat → Bool} : idl (zoff P np nX X G) := fun _ _ _ _ _ h => if_pos h
theorem zwr_id (ho : idl o) (h : s.2.2.2 ≠ 0) : ∀ n, zwr o E k c pr n s = s
  | 0 => rfl
  | n + 1 => by
    unfold zwr
    rw [zwr_id ho h n]
    split
    · exact ho _ _ _ _ _ h
    · rfl
theorem zwr_more (ho : idl o) {a : Nat} (h : (zwr o E k c pr a s).2.2.2 ≠ 0) : ∀ n, zwr o E k c pr (a + n) s = zwr o E k c pr a s
  | 0 => rfl
  | n + 1 => by
    rw [show a + (n + 1) = a + n + 1 from rfl, zwr_s, zwr_more ho h n]
    split
    · exact ho _ _ _ _ _ h
    · rfl
theorem zwr_skip {a : Nat} : ∀ n, (∀ p, a ≤ p → p < a + n → ¬ (E p).2.2.2 + c = pr) → zwr o E k c pr (a + n) s = zwr o E k c pr a s
  | 0, _ => rfl
  | n + 1, h => by
    rw [show a + (n + 1) = a + n + 1 from rfl, zwr_s, zwr_skip n (fun p h1 h2 => h p h1 (by omega)), if_neg (h (a + n) (by omega) (by omega))]
theorem zjq_id (ho : idl o) (h : s.2.2.2 ≠ 0) : ∀ n, zjq o E k c pr p n s = s
  | 0 => rfl
  | n + 1 => by
    unfold zjq
    rw [zjq_id ho h n]
    split
    · exact ho _ _ _ _ _ h
    · rfl
theorem zjq_more (ho : idl o) {a : Nat} (h : (zjq o E k c pr p a s).2.2.2 ≠ 0) : ∀ n, zjq o E k c pr p (a + n) s = zjq o E k c pr p a s
  | 0 => rfl
  | n + 1 => by
    rw [show a + (n + 1) = a + n + 1 from rfl, zjq_s, zjq_more ho h n]
    split
    · exact ho _ _ _ _ _ h
    · rfl
theorem zjq_skip {a : Nat} : ∀ n, (∀ q, a ≤ q → q < a + n → ¬ (E p).2.2.2 + (E q).2.2.2 + c = pr) → zjq o E k c pr p (a + n) s = zjq o E k c pr p a s
  | 0, _ => rfl
  | n + 1, h => by
    rw [show a + (n + 1) = a + n + 1 from rfl, zjq_s, zjq_skip n (fun p h1 h2 => h p h1 (by omega)), if_neg (h (a + n) (by omega) (by omega))]
theorem zjo_id (ho : idl o) (h : s.2.2.2 ≠ 0) : ∀ n, zjo o E k c pr N n s = s
  | 0 => rfl
  | n + 1 => by
    unfold zjo
    rw [zjo_id ho h n]
    exact zjq_id ho h N
theorem zjo_more (ho : idl o) {a : Nat} (h : (zjo o E k c pr N a s).2.2.2 ≠ 0) : ∀ n, zjo o E k c pr N (a + n) s = zjo o E k c pr N a s
  | 0 => rfl
  | n + 1 => by
    show zjq o E k c pr (a + n) N (zjo o E k c pr N (a + n) s) = _
    rw [zjo_more ho h n]
    exact zjq_id ho h N
theorem zkd_id (ho : idl o) (h : s.2.2.2 ≠ 0) : ∀ j, zkd o C pr N E j s = s
  | 0 => rfl
  | j + 1 => by
    unfold zkd
    rw [zkd_id ho h j]
    split
    · exact zwr_id ho h N
    · exact zjo_id ho h N
theorem zkd_more (ho : idl o) {a : Nat} (h : (zkd o C pr N E a s).2.2.2 ≠ 0) : ∀ n, zkd o C pr N E (a + n) s = zkd o C pr N E a s
  | 0 => rfl
  | n + 1 => by
    rw [show a + (n + 1) = a + n + 1 from rfl, zkd_s, zkd_more ho h n]
    split
    · exact zwr_id ho h N
    · exact zjo_id ho h N
theorem zlv_id (ho : idl o) (h : s.2.2.2 ≠ 0) : zlv o C pr s = s := by
  unfold zlv
  simp only [ho _ _ _ _ s h, ite_self]
theorem zgo_id (ho : idl o) (h : s.2.2.2 ≠ 0) : zgo o C pr s = s := by
  unfold zgo
  rw [zlv_id ho h, zkd_id ho h]
theorem zse_more (ho : idl o) {a : Nat} (h : (zse o C a).2.2.2 ≠ 0) : ∀ n, zse o C (a + n) = zse o C a
  | 0 => rfl
  | n + 1 => by
    show zgo o C (a + n + 1) (zse o C (a + n)) = _
    rw [zse_more ho h n]
    exact zgo_id ho h
end
/-- entries that are in order: kinds, parts that come before, trees, sizes not above prices -/
def EW (s : zW) : Prop := s.1 ≤ 120 ∧ (∀ k, k < s.1 → (s.2.1 k).1 < 7 ∧ s.2.2.1 k = mkT s.2.2.1 (s.2.1 k).1 (s.2.1 k).2.1 (s.2.1 k).2.2.1 ∧ ((s.2.1 k).1 = 2 → ltr (s.2.1 k).2.1) ∧ (3 ≤ (s.2.1 k).1 → (s.2.1 k).2.1 < k) ∧ (5 ≤ (s.2.1 k).1 → (s.2.1 k).2.2.1 < k) ∧ (s.2.1 k).2.1 < 120 ∧ (s.2.1 k).2.2.1 < 120 ∧ gl (s.2.2.1 k) ∧ sz (s.2.2.1 k) ≤ (s.2.1 k).2.2.2 ∧ (s.2.1 k).2.2.2 ≤ 60) ∧ ∀ i j, i < j → j < s.1 → (s.2.1 i).2.2.2 ≤ (s.2.1 j).2.2.2
/-- the first N entries are as in another state -/
def pre (N : Nat) (s s' : zW) : Prop := N ≤ s'.1 ∧ ∀ i, i < N → s'.2.1 i = s.2.1 i ∧ s'.2.2.1 i = s.2.2.1 i
theorem pre_refl {s : zW} {N : Nat} (h : N ≤ s.1) : pre N s s := ⟨h, fun _ _ => ⟨rfl, rfl⟩⟩
theorem pre_trans {a b c : zW} {N : Nat} (h : pre N a b) (h2 : pre N b c) : pre N a c := ⟨h2.1, fun i hi => ⟨(h2.2 i hi).1.trans (h.2 i hi).1, (h2.2 i hi).2.trans (h.2 i hi).2⟩⟩
/-- what may be offered -/
def okoff (s : zW) (k a b pr : Nat) : Prop := k < 7 ∧ (k = 2 → ltr a) ∧ (3 ≤ k → a < s.1) ∧ (5 ≤ k → b < s.1) ∧ a < 120 ∧ b < 120 ∧ sz (mkT s.2.2.1 k a b) ≤ pr ∧ pr ≤ 60 ∧ gl (mkT s.2.2.1 k a b) ∧ ∀ i, i < s.1 → (s.2.1 i).2.2.2 ≤ pr
section
variable {P X : Nat → List Nat} {np nX : Nat} {G : Nat → Bool} {k a b pr : Nat} {s : zW}
theorem mkT_zst {T : Nat → zE} {n k a b : Nat} {t : zE} (h1 : 3 ≤ k → a < n) (h2 : 5 ≤ k → b < n) (hk : k < 7) : mkT (zst T n t) k a b = mkT T k a b := by
  rcases (show k = 0 ∨ k = 1 ∨ k = 2 ∨ k = 3 ∨ k = 4 ∨ k = 5 ∨ k = 6 by omega) with rfl | rfl | rfl | rfl | rfl | rfl | rfl
  · rfl
  · rfl
  · rfl
  · rw [mkT_3, mkT_3, zst_ne (by have := h1 (by omega); omega)]
  · rw [mkT_4, mkT_4, zst_ne (by have := h1 (by omega); omega)]
  · rw [mkT_5, mkT_5, zst_ne (by have := h1 (by omega); omega), zst_ne (by have := h2 (by omega); omega)]
  · rw [mkT_6, mkT_6, zst_ne (by have := h1 (by omega); omega), zst_ne (by have := h2 (by omega); omega)]
theorem zoff_ok (h : EW s) (ho : okoff s k a b pr) : EW (zoff P np nX X G k a b pr s) ∧ pre s.1 s (zoff P np nX X G k a b pr s) ∧ (∀ i, i < (zoff P np nX X G k a b pr s).1 → s.1 ≤ i → ((zoff P np nX X G k a b pr s).2.1 i).2.2.2 = pr) := by
  obtain ⟨o1, o2, o3, o4, o5, o6, o7, o8, o9, o10⟩ := ho
  unfold zoff
  by_cases h1 : s.2.2.2 ≠ 0
  · rw [if_pos h1]
    exact ⟨h, pre_refl (Nat.le_refl _), fun i h2 h3 => by omega⟩
  rw [if_neg h1]
  by_cases h2 : hasT P np s.2.2.1 (tbn P (mkT s.2.2.1 k a b) np) s.1 = true
  · rw [if_pos h2]
    exact ⟨h, pre_refl (Nat.le_refl _), fun i h2 h3 => by omega⟩
  rw [if_neg h2]
  by_cases h3 : s.1 = 120
  · rw [if_pos h3]
    exact ⟨h, ⟨Nat.le_refl _, fun _ _ => ⟨rfl, rfl⟩⟩, fun i h2 h3 => by dsimp only at h2; omega⟩
  rw [if_neg h3]
  obtain ⟨e1, e2, e3⟩ := h
  refine ⟨⟨by dsimp only; omega, fun j hj => ?_, fun i j hij hj => ?_⟩, ⟨by dsimp only; omega, fun i hi => ?_⟩, fun i hi hi2 => ?_⟩
  · dsimp only at hj ⊢
    by_cases hjn : j = s.1
    · subst hjn
      rw [zst_same, zst_same]
      exact ⟨o1, (mkT_zst o3 o4 o1).symm, o2, o3, o4, o5, o6, o9, o7, o8⟩
    · rw [zst_ne hjn, zst_ne hjn]
      obtain ⟨g1, g2, g3, g4, g5, g6⟩ := e2 j (by omega)
      refine ⟨g1, ?_, g3, g4, g5, g6⟩
      rw [mkT_zst (fun z => by have := g4 z; omega) (fun z => by have := g5 z; omega) g1]
      exact g2
  · dsimp only at hj ⊢
    by_cases hjn : j = s.1
    · subst hjn
      rw [zst_same, zst_ne (by omega)]
      exact o10 i hij
    · rw [zst_ne hjn, zst_ne (by omega)]
      exact e3 i j hij (by omega)
  · dsimp only
    rw [zst_ne (by omega), zst_ne (by omega)]
    exact ⟨rfl, rfl⟩
  · dsimp only at hi ⊢
    obtain rfl : i = s.1 := by omega
    rw [zst_same]
end
