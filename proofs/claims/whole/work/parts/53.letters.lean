/-! MATHS: words as lists of letters, and their numbers -/
theorem p256 (k : Nat) : 2 ^ (8 * k) = 256 ^ k := by rw [Nat.pow_mul]
theorem p4 (k : Nat) : 2 ^ (2 * k) = 4 ^ k := by rw [Nat.pow_mul]
theorem wpk_fold : ∀ (l : List Nat) (x : Nat), l.foldl (fun x c => x * 256 + c) x = x * 256 ^ l.length + wpk l
  | [], x => by simp [wpk]
  | c :: l, x => by
    have e : wpk (c :: l) = (0 * 256 + c) * 256 ^ l.length + wpk l := wpk_fold l (0 * 256 + c)
    rw [e, List.foldl_cons, wpk_fold l, List.length_cons, Nat.pow_succ, Nat.add_mul]
    generalize 256 ^ l.length = P
    have : x * (P * 256) = x * 256 * P := by rw [Nat.mul_comm P, Nat.mul_assoc]
    rw [this, Nat.zero_mul, Nat.zero_add, Nat.add_assoc]
theorem wpk_app (l r : List Nat) : wpk (l ++ r) = wpk l * 256 ^ r.length + wpk r := by
  unfold wpk
  rw [List.foldl_append]
  exact wpk_fold r _
theorem wpk_cons (c : Nat) (l : List Nat) : wpk (c :: l) = c * 256 ^ l.length + wpk l := by
  show l.foldl (fun x c => x * 256 + c) (0 * 256 + c) = _
  rw [Nat.zero_mul, Nat.zero_add]
  exact wpk_fold l c
theorem wgood_app {l r : List Nat} (h : wgood (l ++ r)) : wgood l ∧ wgood r := ⟨fun c hc => h c (List.mem_append_left _ hc), fun c hc => h c (List.mem_append_right _ hc)⟩
theorem wgood_mk {l r : List Nat} (h : wgood l) (h2 : wgood r) : wgood (l ++ r) := fun c hc => (List.mem_append.mp hc).elim (h c) (h2 c)
theorem wgood_take {l : List Nat} (h : wgood l) (i : Nat) : wgood (l.take i) := fun c hc => h c (List.mem_of_mem_take hc)
theorem wgood_drop {l : List Nat} (h : wgood l) (i : Nat) : wgood (l.drop i) := fun c hc => h c (List.mem_of_mem_drop hc)
theorem wgood_256 {l : List Nat} (h : wgood l) : ∀ c ∈ l, c < 256 := fun c hc => by have := h c hc; omega
theorem wpk_bd {l : List Nat} (h : wgood l) : wpk l < 256 ^ l.length := wpk_lt (wgood_256 h)
theorem wpk_take {l : List Nat} (h : wgood l) {i : Nat} (hi : i ≤ l.length) : wpk l / 256 ^ (l.length - i) = wpk (l.take i) := by
  have e := wpk_app (l.take i) (l.drop i)
  rw [List.take_append_drop, List.length_drop] at e
  have hb := wpk_bd (wgood_drop h i)
  rw [List.length_drop] at hb
  rw [e, Nat.mul_comm, Nat.mul_add_div (Nat.pow_pos (by omega)), Nat.div_eq_of_lt hb, Nat.add_zero]
theorem wpk_drop {l : List Nat} (h : wgood l) {i : Nat} (hi : i ≤ l.length) : wpk l % 256 ^ (l.length - i) = wpk (l.drop i) := by
  have e := wpk_app (l.take i) (l.drop i)
  rw [List.take_append_drop, List.length_drop] at e
  have hb := wpk_bd (wgood_drop h i)
  rw [List.length_drop] at hb
  rw [e, Nat.mul_comm, Nat.mul_add_mod, Nat.mod_eq_of_lt hb]
theorem wpk_low {l : List Nat} (h : wgood l) : ∀ k, k < l.length → 256 ^ k ≤ wpk l := by
  intro k hk
  cases l with
  | nil => cases hk
  | cons c l =>
    rw [wpk_cons]
    have hc := h c List.mem_cons_self
    rw [List.length_cons] at hk
    have h1 : 256 ^ k ≤ 256 ^ l.length := Nat.pow_le_pow_right (by omega) (by omega)
    have h2 : 1 * 256 ^ l.length ≤ c * 256 ^ l.length := Nat.mul_le_mul_right _ (by omega)
    omega
theorem wpk_wsz {l : List Nat} (h : wgood l) : wsz (wpk l) l.length := ⟨by rw [p256]; exact wpk_bd h, fun k hk => by rw [p256]; exact wpk_low h k hk⟩
theorem wpk_48 {l : List Nat} (h : wgood l) (hl : l.length ≤ 6) : wpk l < 281474976710656 := Nat.lt_of_lt_of_le (wpk_bd h) (Nat.le_trans (Nat.pow_le_pow_right (by omega) hl) (by decide))
theorem wpk_bt {l : List Nat} (h : wgood l) {j : Nat} (hj : j < l.length) : bt (wpk l) (8 * (l.length - 1 - j)) = l[j] := by
  unfold bt
  rw [p256, show l.length - 1 - j = l.length - (j + 1) by omega, wpk_take h (by omega)]
  rw [← List.take_append_getElem hj, wpk_snoc]
  have := h _ (List.getElem_mem hj)
  omega
/-! the numbers with base 4 -/
theorem w4_fold : ∀ (l : List Nat) (x : Nat), (∀ c ∈ l, 96 ≤ c) → l.foldl (fun x c => 4 * x + c - 96) x = x * 4 ^ l.length + w4 l
  | [], x, _ => by simp [w4]
  | c :: l, x, h => by
    have h1 : ∀ c ∈ l, 96 ≤ c := fun a ha => h a (List.mem_cons_of_mem _ ha)
    have hc := h c List.mem_cons_self
    have e : w4 (c :: l) = (4 * 0 + c - 96) * 4 ^ l.length + w4 l := w4_fold l (4 * 0 + c - 96) h1
    rw [e, List.foldl_cons, w4_fold l _ h1, List.length_cons, Nat.pow_succ]
    generalize 4 ^ l.length = P
    have e1 : 4 * x + c - 96 = 4 * x + (c - 96) := by omega
    have e2 : 4 * 0 + c - 96 = c - 96 := by omega
    rw [e1, e2, Nat.add_mul, show x * (P * 4) = 4 * x * P by rw [Nat.mul_comm P, ← Nat.mul_assoc, Nat.mul_comm x], Nat.add_assoc]
theorem w4_app {l r : List Nat} (h : ∀ c ∈ r, 96 ≤ c) : w4 (l ++ r) = w4 l * 4 ^ r.length + w4 r := by
  unfold w4
  rw [List.foldl_append]
  exact w4_fold r _ h
theorem wgood_96 {l : List Nat} (h : wgood l) : ∀ c ∈ l, 96 ≤ c := fun c hc => by have := h c hc; omega
theorem w4_bd {l : List Nat} (h : wgood l) : w4 l < 4 ^ l.length := (w4_range _ l rfl h).2
theorem w4_take {l : List Nat} (h : wgood l) {i : Nat} (hi : i ≤ l.length) : w4 l / 4 ^ (l.length - i) = w4 (l.take i) := by
  have e := w4_app (l := l.take i) (wgood_96 (wgood_drop h i))
  rw [List.take_append_drop, List.length_drop] at e
  have hb := w4_bd (wgood_drop h i)
  rw [List.length_drop] at hb
  rw [e, Nat.mul_comm, Nat.mul_add_div (Nat.pow_pos (by omega)), Nat.div_eq_of_lt hb, Nat.add_zero]
theorem w4_drop {l : List Nat} (h : wgood l) {i : Nat} (hi : i ≤ l.length) : w4 l % 4 ^ (l.length - i) = w4 (l.drop i) := by
  have e := w4_app (l := l.take i) (wgood_96 (wgood_drop h i))
  rw [List.take_append_drop, List.length_drop] at e
  have hb := w4_bd (wgood_drop h i)
  rw [List.length_drop] at hb
  rw [e, Nat.mul_comm, Nat.mul_add_mod, Nat.mod_eq_of_lt hb]
theorem w4_low {l : List Nat} (h : wgood l) : ∀ k, k < l.length → 4 ^ k ≤ w4 l := (w4_range _ l rfl h).1
theorem w4_wsz4 {l : List Nat} (h : wgood l) : wsz4 (w4 l) l.length := ⟨by rw [p4]; exact w4_bd h, fun k hk => by rw [p4]; exact w4_low h k hk⟩
theorem w4_4096 {l : List Nat} (h : wgood l) (hl : l.length ≤ 6) : w4 l < 4096 := Nat.lt_of_lt_of_le (w4_bd h) (Nat.le_trans (Nat.pow_le_pow_right (by omega) hl) (by decide))
theorem w4_digit {l : List Nat} (h : wgood l) {j : Nat} (hj : j < l.length) : w4 l / 2 ^ (2 * (l.length - 1 - j)) % 4 = l[j] - 96 := by
  rw [p4, show l.length - 1 - j = l.length - (j + 1) by omega, w4_take h (by omega)]
  rw [← List.take_append_getElem hj, w4_snoc]
  have := h _ (List.getElem_mem hj)
  omega
/-- the part of a word -/
def wsl (l : List Nat) (a b : Nat) : List Nat := (l.take b).drop a
theorem w4_part {l : List Nat} (h : wgood l) {a b : Nat} (hab : a ≤ b) (hb : b ≤ l.length) : w4 l / 2 ^ (2 * (l.length - b)) % 2 ^ (2 * (b - a)) = w4 (wsl l a b) := by
  rw [p4, p4, w4_take h hb]
  have e : (l.take b).length = b := by rw [List.length_take]; omega
  have := w4_drop (wgood_take h b) (i := a) (by omega)
  rw [e] at this
  exact this
theorem tw_take {l : List Nat} (h : wgood l) : ∀ i, i ≤ l.length → tw (w4 l) l.length i = wpk (l.take i)
  | 0, _ => by rw [List.take_zero]; rfl
  | i + 1, hi => by
    have hj : i < l.length := by omega
    have hg := h _ (List.getElem_mem hj)
    show tw (w4 l) l.length i * 256 + (96 + w4 l / 2 ^ (2 * (l.length - 1 - i)) % 4) = _
    rw [tw_take h i (by omega), w4_digit h hj, ← List.take_append_getElem hj, wpk_snoc]
    omega
theorem tw_wpk {l : List Nat} (h : wgood l) : tw (w4 l) l.length l.length = wpk l := by rw [tw_take h _ (Nat.le_refl _), List.take_length]
theorem wlen_lt {l r : List Nat} (h : wgood l) (h2 : wgood r) (hl : l.length < r.length) : wpk l < wpk r ∧ w4 l < w4 r :=
  ⟨Nat.lt_of_lt_of_le (wpk_bd h) (wpk_low h2 _ hl), Nat.lt_of_lt_of_le (w4_bd h) (w4_low h2 _ hl)⟩
theorem word_eq : ∀ (n : Nat) (l r : List Nat), l.length = n → r.length = n → wgood l → wgood r → ((wpk l < wpk r ↔ w4 l < w4 r) ∧ (wpk l = wpk r ↔ w4 l = w4 r)) ∧ (wpk l = wpk r → l = r)
  | 0, l, r, hl, hr, _, _ => by
    rw [List.length_eq_zero_iff] at hl hr
    subst hl; subst hr
    exact ⟨⟨Iff.rfl, Iff.rfl⟩, fun _ => rfl⟩
  | n + 1, l, r, hl, hr, h, h2 => by
    rcases List.eq_nil_or_concat l with rfl | ⟨l', c, rfl⟩
    · cases hl
    rcases List.eq_nil_or_concat r with rfl | ⟨r', c', rfl⟩
    · cases hr
    rw [List.concat_eq_append] at *
    rw [List.concat_eq_append] at *
    rw [List.length_append, List.length_singleton] at hl hr
    obtain ⟨⟨i1, i2⟩, i3⟩ := word_eq n l' r' (by omega) (by omega) (wgood_app h).1 (wgood_app h2).1
    have hc := (wgood_app h).2 c (List.mem_singleton.mpr rfl)
    have hc2 := (wgood_app h2).2 c' (List.mem_singleton.mpr rfl)
    rw [wpk_snoc, wpk_snoc, w4_snoc, w4_snoc]
    refine ⟨⟨by omega, by omega⟩, fun e => ?_⟩
    have e1 : wpk l' = wpk r' := by omega
    have e2 : c = c' := by omega
    rw [i3 e1, e2]
theorem wpk_lt_iff {l r : List Nat} (h : wgood l) (h2 : wgood r) : wpk l < wpk r ↔ w4 l < w4 r := by
  rcases Nat.lt_trichotomy l.length r.length with hl | hl | hl
  · have := wlen_lt h h2 hl
    exact ⟨fun _ => this.2, fun _ => this.1⟩
  · exact (word_eq _ l r rfl hl.symm h h2).1.1
  · have := wlen_lt h2 h hl
    omega
theorem wpk_inj {l r : List Nat} (h : wgood l) (h2 : wgood r) (e : wpk l = wpk r) : l = r := by
  rcases Nat.lt_trichotomy l.length r.length with hl | hl | hl
  · have := wlen_lt h h2 hl
    omega
  · exact (word_eq _ l r rfl hl.symm h h2).2 e
  · have := wlen_lt h2 h hl
    omega
theorem w4_inj {l r : List Nat} (h : wgood l) (h2 : wgood r) (e : w4 l = w4 r) : l = r := by
  rcases Nat.lt_trichotomy (wpk l) (wpk r) with hl | hl | hl
  · have := (wpk_lt_iff h h2).mp hl
    omega
  · exact wpk_inj h h2 hl
  · have := (wpk_lt_iff h2 h).mp hl
    omega
/-! numbers back into letters -/
def wd : Nat → Nat → List Nat
  | 0, _ => []
  | k + 1, w => if w = 0 then [] else wd k (w / 4) ++ [96 + w % 4]
theorem wd_96 : ∀ k w, ∀ c ∈ wd k w, 96 ≤ c ∧ c ≤ 99
  | 0, w, c, hc => by cases hc
  | k + 1, w, c, hc => by
    unfold wd at hc
    split at hc
    · cases hc
    · rcases List.mem_append.mp hc with hc | hc
      · exact wd_96 k _ c hc
      · rw [List.mem_singleton] at hc; omega
theorem wd_w4 : ∀ k w, w < 4 ^ k → w4 (wd k w) = w
  | 0, w, h => by rw [Nat.pow_zero] at h; obtain rfl : w = 0 := by omega
                  rfl
  | k + 1, w, h => by
    unfold wd
    split
    · rename_i h0; rw [h0]; rfl
    · rw [w4_snoc, wd_w4 k (w / 4) (by rw [Nat.pow_succ] at h; omega)]
      omega
theorem wd_len : ∀ k w, w < 4 ^ k → w < 4 ^ (wd k w).length ∧ ∀ j, j < (wd k w).length → 4 ^ j ≤ w
  | 0, w, h => by
    rw [Nat.pow_zero] at h; obtain rfl : w = 0 := by omega
    exact ⟨by decide, fun j hj => by cases hj⟩
  | k + 1, w, h => by
    unfold wd
    split
    · rename_i h0; subst h0; exact ⟨by decide, fun j hj => by cases hj⟩
    · rename_i h0
      obtain ⟨h1, h2⟩ := wd_len k (w / 4) (by rw [Nat.pow_succ] at h; omega)
      rw [List.length_append, List.length_singleton]
      refine ⟨by rw [Nat.pow_succ]; omega, fun j hj => ?_⟩
      cases j with
      | zero => rw [Nat.pow_zero]; omega
      | succ j =>
        have := h2 j (by omega)
        rw [Nat.pow_succ]; omega
theorem wd_wsz4 {k w : Nat} (h : w < 4 ^ k) : wsz4 w (wd k w).length := by
  obtain ⟨h1, h2⟩ := wd_len k w h
  exact ⟨by rw [p4]; exact h1, fun j hj => by rw [p4]; exact h2 j hj⟩
theorem wd_lenle : ∀ k w, (wd k w).length ≤ k
  | 0, w => Nat.le_refl 0
  | k + 1, w => by
    unfold wd
    split
    · exact Nat.zero_le _
    · rw [List.length_append, List.length_singleton]
      have := wd_lenle k (w / 4)
      omega
theorem wd_of : ∀ k (l : List Nat), wgood l → l.length ≤ k → wd k (w4 l) = l := by
  intro k
  induction k with
  | zero =>
    intro l h hl
    obtain rfl : l = [] := List.length_eq_zero_iff.mp (by omega)
    rfl
  | succ k ih =>
    intro l h hl
    rcases List.eq_nil_or_concat l with rfl | ⟨l', c, rfl⟩
    · rfl
    · rw [List.concat_eq_append] at *
      have hc := (wgood_app h).2 c (List.mem_singleton.mpr rfl)
      rw [List.length_append, List.length_singleton] at hl
      unfold wd
      have h1 : (4 * w4 l' + c - 96) / 4 = w4 l' := by omega
      have h2 : 96 + (4 * w4 l' + c - 96) % 4 = c := by omega
      rw [w4_snoc, if_neg (by omega), h1, h2, ih l' (wgood_app h).1 (by omega)]
theorem nz4_wd : ∀ k w, w < 4 ^ k → (nz4 w (wd k w).length = true ↔ wgood (wd k w)) := by
  have key : ∀ w j, nz4 w (j + 1) = true ↔ (w % 4 ≠ 0 ∧ nz4 (w / 4) j = true) := by
    intro w j
    induction j with
    | zero =>
      show (true && decide (w / 2 ^ (2 * 0) % 4 ≠ 0)) = true ↔ _
      rw [Bool.true_and, decide_eq_true_eq, Nat.mul_zero, Nat.pow_zero, Nat.div_one]
      exact ⟨fun h => ⟨h, rfl⟩, fun h => h.1⟩
    | succ j ih =>
      have e : w / 2 ^ (2 * (j + 1)) = w / 4 / 2 ^ (2 * j) := by
        rw [Nat.mul_add, Nat.pow_add, Nat.mul_comm, ← Nat.div_div_eq_div_mul]
      show (nz4 w (j + 1) && decide (w / 2 ^ (2 * (j + 1)) % 4 ≠ 0)) = true ↔ (_ ∧ (nz4 (w / 4) j && decide (w / 4 / 2 ^ (2 * j) % 4 ≠ 0)) = true)
      rw [Bool.and_eq_true, Bool.and_eq_true, ih, e]
      exact and_assoc
  intro k
  induction k with
  | zero => intro w _; exact ⟨fun _ c hc => (by cases hc), fun _ => rfl⟩
  | succ k ih =>
    intro w h
    unfold wd
    split
    · exact ⟨fun _ c hc => (by cases hc), fun _ => rfl⟩
    · have h3 := ih (w / 4) (by rw [Nat.pow_succ] at h; omega)
      rw [List.length_append, List.length_singleton, key, h3]
      constructor
      · rintro ⟨h1, h2⟩
        refine wgood_mk h2 (fun c hc => ?_)
        rw [List.mem_singleton] at hc; omega
      · intro hg
        refine ⟨?_, (wgood_app hg).1⟩
        have := (wgood_app hg).2 _ (List.mem_singleton.mpr rfl)
        omega
/-! words by their places -/
def wa : Nat → Nat → List Nat
  | 0, _ => []
  | k + 1, p => if p = 0 then [] else wa k ((p - 1) / 3) ++ [97 + (p - 1) % 3]
theorem wa_good : ∀ k p, wgood (wa k p)
  | 0, p => fun c hc => by cases hc
  | k + 1, p => by
    unfold wa
    split
    · exact fun c hc => by cases hc
    · refine wgood_mk (wa_good k _) (fun c hc => ?_)
      rw [List.mem_singleton] at hc; omega
theorem apw_wa : ∀ k p, apw k p = wpk (wa k p)
  | 0, p => rfl
  | k + 1, p => by
    unfold apw wa
    split
    · rfl
    · rw [wpk_snoc, apw_wa k]; omega
theorem wa_lenle : ∀ k p, (wa k p).length ≤ k
  | 0, p => Nat.le_refl 0
  | k + 1, p => by
    unfold wa
    split
    · exact Nat.zero_le _
    · rw [List.length_append, List.length_singleton]
      have := wa_lenle k ((p - 1) / 3)
      omega
theorem wa_len : ∀ k L p, L ≤ k → pf L ≤ p → p < pf (L + 1) → (wa k p).length = L
  | 0, L, p, hL, h1, h2 => by
    have := wa_lenle 0 p
    omega
  | k + 1, 0, p, hL, h1, h2 => by
    have e : pf (0 + 1) = 1 := rfl
    obtain rfl : p = 0 := by omega
    rfl
  | k + 1, L + 1, p, hL, h1, h2 => by
    have e1 : pf (L + 1) = pf L * 3 + 1 := rfl
    have e2 : pf (L + 1 + 1) = pf (L + 1) * 3 + 1 := rfl
    unfold wa
    rw [if_neg (by omega), List.length_append, List.length_singleton, wa_len k L ((p - 1) / 3) (by omega) (by omega) (by omega)]
theorem pf_mono {a b : Nat} (h : a ≤ b) : pf a ≤ pf b := by
  induction h with
  | refl => exact Nat.le_refl _
  | step _ ih =>
    refine Nat.le_trans ih ?_
    show _ ≤ pf _ * 3 + 1
    omega
theorem pf_k (k : Nat) : k ≤ pf k := by
  induction k with
  | zero => exact Nat.le_refl _
  | succ k ih => show k + 1 ≤ pf k * 3 + 1; omega
/-- the place is enough letters away: more room changes nothing -/
theorem wa_room : ∀ k p, p < pf (k + 1) → wa k p = wa (k + 1) p
  | 0, p, h => by
    have e : pf (0 + 1) = 1 := rfl
    obtain rfl : p = 0 := by omega
    rfl
  | k + 1, p, h => by
    have e2 : pf (k + 1 + 1) = pf (k + 1) * 3 + 1 := rfl
    unfold wa
    split
    · rfl
    · rename_i h0
      have := wa_room k ((p - 1) / 3) (by omega)
      rw [this]
theorem wa_lt : ∀ k p q, p < q → w4 (wa k p) < w4 (wa k q) ∨ ¬ (q < pf (k + 1))
  | 0, p, q, h => Or.inr (by have e : pf (0 + 1) = 1 := rfl
                             omega)
  | k + 1, p, q, h => by
    have e2 : pf (k + 1 + 1) = pf (k + 1) * 3 + 1 := rfl
    by_cases hq : q < pf (k + 1 + 1)
    · left
      unfold wa
      rw [if_neg (show ¬ q = 0 by omega)]
      rw [w4_snoc]
      split
      · show 0 < _
        omega
      · rename_i hp
        rw [w4_snoc]
        by_cases he : (p - 1) / 3 = (q - 1) / 3
        · rw [he]; omega
        · rcases wa_lt k ((p - 1) / 3) ((q - 1) / 3) (by omega) with h3 | h3
          · omega
          · omega
    · exact Or.inr hq
/-- every word of at most k letters stands at a place -/
theorem wa_sur : ∀ k (l : List Nat), wgood l → l.length ≤ k → ∃ p, p < pf (k + 1) ∧ wa k p = l := by
  intro k
  induction k with
  | zero =>
    intro l h hl
    obtain rfl : l = [] := List.length_eq_zero_iff.mp (by omega)
    exact ⟨0, by decide, rfl⟩
  | succ k ih =>
    intro l h hl
    have e2 : pf (k + 1 + 1) = pf (k + 1) * 3 + 1 := rfl
    rcases List.eq_nil_or_concat l with rfl | ⟨l', c, rfl⟩
    · exact ⟨0, by omega, rfl⟩
    · rw [List.concat_eq_append] at *
      have hc := (wgood_app h).2 c (List.mem_singleton.mpr rfl)
      rw [List.length_append, List.length_singleton] at hl
      obtain ⟨p, hp, rfl⟩ := ih l' (wgood_app h).1 (by omega)
      refine ⟨3 * p + (c - 97) + 1, by omega, ?_⟩
      show (if 3 * p + (c - 97) + 1 = 0 then [] else wa k ((3 * p + (c - 97) + 1 - 1) / 3) ++ [97 + (3 * p + (c - 97) + 1 - 1) % 3]) = _
      have h1 : (3 * p + (c - 97) + 1 - 1) / 3 = p := by omega
      have h2 : 97 + (3 * p + (c - 97) + 1 - 1) % 3 = c := by omega
      rw [if_neg (by omega), h1, h2]
