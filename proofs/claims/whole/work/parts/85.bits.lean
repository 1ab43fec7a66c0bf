/-! SPECS: the number of set bits -/
theorem and256 {a b c e : Nat} (ha : a < 256) (hc : c < 256) : (a + 256 * b) &&& (c + 256 * e) = (a &&& c) + 256 * (b &&& e) := by
  have h1 : ((a + 256 * b) &&& (c + 256 * e)) % 2 ^ 8 = a &&& c := by
    rw [Nat.and_mod_two_pow, show (a + 256 * b) % 2 ^ 8 = a by omega, show (c + 256 * e) % 2 ^ 8 = c by omega]
  have h2 : ((a + 256 * b) &&& (c + 256 * e)) / 2 ^ 8 = b &&& e := by
    rw [Nat.and_div_two_pow, show (a + 256 * b) / 2 ^ 8 = b by omega, show (c + 256 * e) / 2 ^ 8 = e by omega]
  omega
def sm (g : Nat → Nat) : Nat → Nat → Nat
  | 0, _ => 0
  | n + 1, x => g (x % 256) + 256 * sm g n (x / 256)
def mkm (c : Nat) : Nat → Nat
  | 0 => 0
  | n + 1 => c + 256 * mkm c n
def b1 (a : Nat) : Nat := (a / 2) &&& 85
def b2 (a : Nat) : Nat := a - b1 a
def b3 (a : Nat) : Nat := (b2 a &&& 51) + ((b2 a / 4) &&& 51)
def b4 (a : Nat) : Nat := (b3 a + b3 a / 16) &&& 15
def pc2 : Nat → Nat → Nat
  | 0, _ => 0
  | n + 1, x => x % 2 + pc2 n (x / 2)
theorem sm_add (g h : Nat → Nat) : ∀ n x, sm g n x + sm h n x = sm (fun a => g a + h a) n x
  | 0, _ => rfl
  | n + 1, x => by
    have := sm_add g h n (x / 256)
    show g (x % 256) + 256 * sm g n (x / 256) + (h (x % 256) + 256 * sm h n (x / 256)) = g (x % 256) + h (x % 256) + 256 * sm (fun a => g a + h a) n (x / 256)
    omega
theorem sm_id : ∀ n x, x < 256 ^ n → sm (fun a => a) n x = x
  | 0, x, h => by
    show 0 = x
    rw [Nat.pow_zero] at h; omega
  | n + 1, x, h => by
    rw [Nat.pow_succ] at h
    have := sm_id n (x / 256) (by omega)
    show x % 256 + 256 * sm (fun a => a) n (x / 256) = x
    omega
theorem sm_congr {g h : Nat → Nat} (hg : ∀ a, a < 256 → g a = h a) : ∀ n x, sm g n x = sm h n x
  | 0, _ => rfl
  | n + 1, x => by
    show g (x % 256) + 256 * sm g n (x / 256) = h (x % 256) + 256 * sm h n (x / 256)
    rw [hg _ (by omega), sm_congr hg n]
theorem sm_and {g : Nat → Nat} {c : Nat} (hg : ∀ a, a < 256 → g a < 256) (hc : c < 256) : ∀ n x, sm g n x &&& mkm c n = sm (fun a => g a &&& c) n x
  | 0, _ => Nat.and_zero _
  | n + 1, x => by
    show (g (x % 256) + 256 * sm g n (x / 256)) &&& (c + 256 * mkm c n) = (g (x % 256) &&& c) + 256 * sm (fun a => g a &&& c) n (x / 256)
    rw [and256 (hg _ (by omega)) hc, sm_and hg hc n]
theorem k85 : ∀ u, u < 128 → (u + 128) &&& 85 = u &&& 85 := by decide
theorem k51 : ∀ u, u < 64 → ∀ w, w < 4 → (u + 64 * w) &&& 51 = u &&& 51 := by decide
theorem sm_1 : ∀ n x, (x / 2) &&& mkm 85 n = sm b1 n x
  | 0, x => Nat.and_zero _
  | n + 1, x => by
    show (x / 2) &&& (85 + 256 * mkm 85 n) = ((x % 256 / 2) &&& 85) + 256 * sm b1 n (x / 256)
    rw [show x / 2 = (x % 256 / 2 + 128 * (x / 256 % 2)) + 256 * (x / 256 / 2) by omega, and256 (by omega) (by omega), sm_1 n]
    congr 1
    rcases (show x / 256 % 2 = 0 ∨ x / 256 % 2 = 1 by omega) with h | h
    · rw [h]; rfl
    · rw [h, Nat.mul_one]; exact k85 _ (by omega)
theorem sm_2 {g : Nat → Nat} (hg : ∀ a, a < 256 → g a < 256) : ∀ n x, (sm g n x / 4) &&& mkm 51 n = sm (fun a => (g a / 4) &&& 51) n x
  | 0, _ => Nat.and_zero _
  | n + 1, x => by
    have h0 := hg (x % 256) (by omega)
    show ((g (x % 256) + 256 * sm g n (x / 256)) / 4) &&& (51 + 256 * mkm 51 n) = ((g (x % 256) / 4) &&& 51) + 256 * sm (fun a => (g a / 4) &&& 51) n (x / 256)
    rw [show (g (x % 256) + 256 * sm g n (x / 256)) / 4 = (g (x % 256) / 4 + 64 * (sm g n (x / 256) % 4)) + 256 * (sm g n (x / 256) / 4) by omega, and256 (by omega) (by omega), sm_2 hg n]
    congr 1
    exact k51 _ (by omega) _ (by omega)
theorem and15 (x : Nat) : x &&& 15 = x % 16 := Nat.and_two_pow_sub_one_eq_mod x 4
theorem sm_lo {g : Nat → Nat} (hg : ∀ a, a < 256 → g a < 256 ∧ g a % 16 ≤ 4) : ∀ n x, sm g n x % 16 ≤ 4
  | 0, _ => Nat.zero_le _
  | n + 1, x => by
    have := hg (x % 256) (by omega)
    show (g (x % 256) + 256 * sm g n (x / 256)) % 16 ≤ 4
    omega
theorem sm_3 {g : Nat → Nat} (hg : ∀ a, a < 256 → g a < 69 ∧ g a % 16 ≤ 4) : ∀ n x, (sm g n x + sm g n x / 16) &&& mkm 15 n = sm (fun a => (g a + g a / 16) &&& 15) n x
  | 0, _ => Nat.and_zero _
  | n + 1, x => by
    have h0 := hg (x % 256) (by omega)
    have h1 := sm_lo (g := g) (fun a ha => ⟨by have := hg a ha; omega, (hg a ha).2⟩) n (x / 256)
    show ((g (x % 256) + 256 * sm g n (x / 256)) + (g (x % 256) + 256 * sm g n (x / 256)) / 16) &&& (15 + 256 * mkm 15 n) = ((g (x % 256) + g (x % 256) / 16) &&& 15) + 256 * sm (fun a => (g a + g a / 16) &&& 15) n (x / 256)
    rw [show (g (x % 256) + 256 * sm g n (x / 256)) + (g (x % 256) + 256 * sm g n (x / 256)) / 16 = (g (x % 256) + g (x % 256) / 16 + 16 * (sm g n (x / 256) % 16)) + 256 * (sm g n (x / 256) + sm g n (x / 256) / 16) by omega, and256 (by omega) (by omega), sm_3 hg n]
    congr 1
    rw [and15, and15]
    omega
theorem kb0 : ∀ h, h < 16 → ∀ l, l < 16 → b1 (16 * h + l) ≤ 16 * h + l ∧ b3 (16 * h + l) < 69 ∧ b3 (16 * h + l) % 16 ≤ 4 ∧ b4 (16 * h + l) ≤ 8 ∧ b4 (16 * h + l) = pc2 8 (16 * h + l) := by decide
theorem kb (a : Nat) (ha : a < 256) : b1 a ≤ a ∧ b3 a < 69 ∧ b3 a % 16 ≤ 4 ∧ b4 a ≤ 8 ∧ b4 a = pc2 8 a := by
  have := kb0 (a / 16) (by omega) (a % 16) (by omega)
  rw [show 16 * (a / 16) + a % 16 = a by omega] at this
  exact this
theorem pc2_mod : ∀ n x, pc2 8 x = pc2 8 (x % 256) ∧ pc2 (8 + n) x = pc2 8 x + pc2 n (x / 256) := by
  intro n x
  refine ⟨?_, ?_⟩
  · simp only [pc2]
    omega
  · rw [Nat.add_comm 8 n]
    simp only [pc2]
    rw [show x / 2 / 2 / 2 / 2 / 2 / 2 / 2 / 2 = x / 256 by omega]
    omega
theorem sm_pc (x : Nat) (hx : x < 18446744073709551616) : let y := sm b4 8 x; let z := y + y / 2 ^ 8; let u := z + z / 2 ^ 16; (u + u / 2 ^ 32) % 128 = pc2 64 x := by
  intro y z u
  have h : ∀ a, b4 (a % 256) ≤ 8 ∧ b4 (a % 256) = pc2 8 a := fun a => ⟨(kb _ (by omega)).2.2.2.1, (kb _ (by omega)).2.2.2.2.trans (pc2_mod 0 a).1.symm⟩
  have e : pc2 64 x = pc2 8 x + (pc2 8 (x / 256) + (pc2 8 (x / 256 / 256) + (pc2 8 (x / 256 / 256 / 256) + (pc2 8 (x / 256 / 256 / 256 / 256) + (pc2 8 (x / 256 / 256 / 256 / 256 / 256) + (pc2 8 (x / 256 / 256 / 256 / 256 / 256 / 256) + pc2 8 (x / 256 / 256 / 256 / 256 / 256 / 256 / 256))))))) := by
    rw [(pc2_mod 56 x).2, (pc2_mod 48 _).2, (pc2_mod 40 _).2, (pc2_mod 32 _).2, (pc2_mod 24 _).2, (pc2_mod 16 _).2, (pc2_mod 8 _).2]
  have ey : y = b4 (x % 256) + 256 * (b4 (x / 256 % 256) + 256 * (b4 (x / 256 / 256 % 256) + 256 * (b4 (x / 256 / 256 / 256 % 256) + 256 * (b4 (x / 256 / 256 / 256 / 256 % 256) + 256 * (b4 (x / 256 / 256 / 256 / 256 / 256 % 256) + 256 * (b4 (x / 256 / 256 / 256 / 256 / 256 / 256 % 256) + 256 * (b4 (x / 256 / 256 / 256 / 256 / 256 / 256 / 256 % 256) + 256 * 0))))))) := rfl
  obtain ⟨q0, p0⟩ := h x
  obtain ⟨q1, p1⟩ := h (x / 256)
  obtain ⟨q2, p2⟩ := h (x / 256 / 256)
  obtain ⟨q3, p3⟩ := h (x / 256 / 256 / 256)
  obtain ⟨q4, p4⟩ := h (x / 256 / 256 / 256 / 256)
  obtain ⟨q5, p5⟩ := h (x / 256 / 256 / 256 / 256 / 256)
  obtain ⟨q6, p6⟩ := h (x / 256 / 256 / 256 / 256 / 256 / 256)
  obtain ⟨q7, p7⟩ := h (x / 256 / 256 / 256 / 256 / 256 / 256 / 256)
  rw [e, ← p0, ← p1, ← p2, ← p3, ← p4, ← p5, ← p6, ← p7]
  have eu : u = z + z / 2 ^ 16 := rfl
  have ez : z = y + y / 2 ^ 8 := rfl
  clear_value u z y
  clear p0 p1 p2 p3 p4 p5 p6 p7 e h
  generalize b4 (x % 256) = c0 at *
  generalize b4 (x / 256 % 256) = c1 at *
  generalize b4 (x / 256 / 256 % 256) = c2 at *
  generalize b4 (x / 256 / 256 / 256 % 256) = c3 at *
  generalize b4 (x / 256 / 256 / 256 / 256 % 256) = c4 at *
  generalize b4 (x / 256 / 256 / 256 / 256 / 256 % 256) = c5 at *
  generalize b4 (x / 256 / 256 / 256 / 256 / 256 / 256 % 256) = c6 at *
  generalize b4 (x / 256 / 256 / 256 / 256 / 256 / 256 / 256 % 256) = c7 at *
  have k1 : z = (c0 + c1) + 256 * ((c1 + c2) + 256 * ((c2 + c3) + 256 * ((c3 + c4) + 256 * ((c4 + c5) + 256 * ((c5 + c6) + 256 * ((c6 + c7) + 256 * c7)))))) := by
    rw [show y / 2 ^ 8 = c1 + 256 * (c2 + 256 * (c3 + 256 * (c4 + 256 * (c5 + 256 * (c6 + 256 * c7))))) by omega] at ez
    omega
  have k2 : u = (c0 + c1 + c2 + c3) + 256 * ((c1 + c2 + c3 + c4) + 256 * ((c2 + c3 + c4 + c5) + 256 * ((c3 + c4 + c5 + c6) + 256 * ((c4 + c5 + c6 + c7) + 256 * ((c5 + c6 + c7) + 256 * ((c6 + c7) + 256 * c7)))))) := by
    rw [show z / 2 ^ 16 = (c2 + c3) + 256 * ((c3 + c4) + 256 * ((c4 + c5) + 256 * ((c5 + c6) + 256 * ((c6 + c7) + 256 * c7)))) by omega] at eu
    omega
  have k3 : u / 2 ^ 32 = (c4 + c5 + c6 + c7) + 256 * ((c5 + c6 + c7) + 256 * ((c6 + c7) + 256 * c7)) := by omega
  rw [k3]
  omega
theorem pc2_pow : ∀ n y k, k < n → y < 2 ^ k → pc2 n (y + 2 ^ k) = pc2 n y + 1
  | 0, _, _, h, _ => absurd h (Nat.not_lt_zero _)
  | n + 1, y, 0, _, hy => by
    have hy0 : y = 0 := by rw [Nat.pow_zero] at hy; omega
    subst hy0
    show (0 + 2 ^ 0) % 2 + pc2 n ((0 + 2 ^ 0) / 2) = 0 % 2 + pc2 n (0 / 2) + 1
    rw [show (0 + 2 ^ 0) / 2 = 0 / 2 from rfl]
    omega
  | n + 1, y, k + 1, h, hy => by
    rw [Nat.pow_succ] at hy ⊢
    have := pc2_pow n (y / 2) k (by omega) (by omega)
    show (y + 2 ^ k * 2) % 2 + pc2 n ((y + 2 ^ k * 2) / 2) = y % 2 + pc2 n (y / 2) + 1
    rw [show (y + 2 ^ k * 2) / 2 = y / 2 + 2 ^ k by omega, this]
    omega
theorem pc2_zero : ∀ n, pc2 n 0 = 0
  | 0 => rfl
  | n + 1 => by
    show 0 % 2 + pc2 n (0 / 2) = 0
    rw [show 0 / 2 = 0 from rfl, pc2_zero n]
/-- the number of pieces that a tree matches -/
noncomputable def cnp (P : Nat → List Nat) (t : zE) : Nat → Nat
  | 0 => 0
  | k + 1 => cnp P t k + (if mb t (P k) = true then 1 else 0)
theorem cnp_tbn {P : Nat → List Nat} {t : zE} : ∀ k, k ≤ 64 → pc2 64 (tbn P t k) = cnp P t k
  | 0, _ => pc2_zero 64
  | k + 1, h => by
    have ih := cnp_tbn (P := P) (t := t) k (by omega)
    show pc2 64 (if mb t (P k) = true then tbn P t k ||| 2 ^ k else tbn P t k) = cnp P t k + (if mb t (P k) = true then 1 else 0)
    have hlt : tbn P t k < 2 ^ k := by
      apply Nat.lt_pow_two_of_testBit
      intro i hi
      rw [← Bool.not_eq_true, tbn_bit]
      omega
    split
    · have e : tbn P t k ||| 2 ^ k = tbn P t k + 2 ^ k := by
        rw [Nat.or_comm]
        have := Nat.two_pow_add_eq_or_of_lt hlt 1
        rw [Nat.mul_one] at this
        rw [← this, Nat.add_comm]
      rw [e, pc2_pow 64 _ k (by omega) hlt, ih]
    · rw [ih, Nat.add_zero]
theorem cnp_le {P : Nat → List Nat} {t : zE} : ∀ k, cnp P t k ≤ k
  | 0 => Nat.le_refl _
  | k + 1 => by
    have := cnp_le (P := P) (t := t) k
    show cnp P t k + (if mb t (P k) = true then 1 else 0) ≤ k + 1
    split <;> omega
theorem s_bitCount {x d : Nat} {f : zF} {m : zM} (hd : 1 ≤ d) (hx : x < 1152921504606846976) : zrun zTb d 174 [.long (J (x : Int))] f m = some (.inl (some (.int (I ((pc2 64 x : Nat) : Int)))), f, m) := by
  obtain ⟨d, rfl⟩ : ∃ e, d = e + 1 := ⟨d - 1, by omega⟩
  have hk := fun a ha => kb a ha
  have e0 := sm_id 8 x (by omega)
  have s1 := sm_1 8 x
  have hs : sm (fun a => b1 a + b2 a) 8 x = x := (sm_congr (g := fun a => b1 a + b2 a) (h := fun a => a) (fun a ha => by have := (hk a ha).1; show b1 a + (a - b1 a) = a; omega) 8 x).trans e0
  have s2 : x - sm b1 8 x = sm b2 8 x := by
    have := sm_add b1 b2 8 x
    rw [hs] at this
    omega
  have hle : sm b1 8 x ≤ x := by
    have := sm_add b1 b2 8 x
    rw [hs] at this
    omega
  have hb2 : ∀ a, a < 256 → b2 a < 256 := fun a ha => by unfold b2; omega
  have s3 := sm_and hb2 (show 51 < 256 by omega) 8 x
  have s4 := sm_2 hb2 8 x
  have s5 : sm (fun a => b2 a &&& 51) 8 x + sm (fun a => (b2 a / 4) &&& 51) 8 x = sm b3 8 x := sm_add _ _ 8 x
  have s6 : (sm b3 8 x + sm b3 8 x / 16) &&& mkm 15 8 = sm b4 8 x := sm_3 (fun a ha => ⟨(hk a ha).2.1, (hk a ha).2.2.1⟩) 8 x
  have hm1 : mkm 85 8 = 6148914691236517205 := by decide
  have hm2 : mkm 51 8 = 3689348814741910323 := by decide
  have hm3 : mkm 15 8 = 1085102592571150095 := by decide
  rw [hm1] at s1
  rw [hm2] at s3 s4
  rw [hm3] at s6
  have hb3 : sm b3 8 x < 9223372036854775808 := by
    have h1 : sm b2 8 x &&& 3689348814741910323 ≤ 3689348814741910323 := Nat.and_le_right
    have h2 : (sm b2 8 x / 4) &&& 3689348814741910323 ≤ 3689348814741910323 := Nat.and_le_right
    rw [s3] at h1
    rw [s4] at h2
    omega
  have hb4 : sm b4 8 x ≤ 1085102592571150095 := by rw [← s6]; exact Nat.and_le_right
  have hfin := sm_pc x (by omega)
  have j1 : ((J (x : Int)).toUInt64 >>> ((I 1).toInt64.toUInt64 &&& Int64.toUInt64 63)).toInt64 = J ((x / 2 : Nat) : Int) := J_ushr x 1 (by omega) (by omega)
  have j2 : J ((x / 2 : Nat) : Int) &&& J 6148914691236517205 = J ((sm b1 8 x : Nat) : Int) := by rw [← s1]; exact J_and _ _
  have j3 : J (x : Int) - J ((sm b1 8 x : Nat) : Int) = J ((sm b2 8 x : Nat) : Int) := by rw [J_sub, ← s2, Int.ofNat_sub hle]
  have j4 : ((J ((sm b2 8 x : Nat) : Int)).toUInt64 >>> ((I 2).toInt64.toUInt64 &&& Int64.toUInt64 63)).toInt64 = J ((sm b2 8 x / 4 : Nat) : Int) := J_ushr _ 2 (by omega) (by omega)
  have j5 : J ((sm b2 8 x / 4 : Nat) : Int) &&& J 3689348814741910323 = J ((sm (fun a => (b2 a / 4) &&& 51) 8 x : Nat) : Int) := by rw [← s4]; exact J_and _ _
  have j6 : J ((sm b2 8 x : Nat) : Int) &&& J 3689348814741910323 = J ((sm (fun a => b2 a &&& 51) 8 x : Nat) : Int) := by rw [← s3]; exact J_and _ _
  have j7 : J ((sm (fun a => b2 a &&& 51) 8 x : Nat) : Int) + J ((sm (fun a => (b2 a / 4) &&& 51) 8 x : Nat) : Int) = J ((sm b3 8 x : Nat) : Int) := by rw [J_add, ← Int.natCast_add, s5]
  have j8 : ((J ((sm b3 8 x : Nat) : Int)).toUInt64 >>> ((I 4).toInt64.toUInt64 &&& Int64.toUInt64 63)).toInt64 = J ((sm b3 8 x / 16 : Nat) : Int) := J_ushr _ 4 (by omega) (by omega)
  have j9 : (J ((sm b3 8 x : Nat) : Int) + J ((sm b3 8 x / 16 : Nat) : Int)) &&& J 1085102592571150095 = J ((sm b4 8 x : Nat) : Int) := by rw [J_add, ← Int.natCast_add, ← s6]; exact J_and _ _
  generalize sm b4 8 x = y at *
  have j10 : J (y : Int) + ((J (y : Int)).toUInt64 >>> ((I 8).toInt64.toUInt64 &&& Int64.toUInt64 63)).toInt64 = J ((y + y / 2 ^ 8 : Nat) : Int) := by
    have : ((J (y : Int)).toUInt64 >>> ((I 8).toInt64.toUInt64 &&& Int64.toUInt64 63)).toInt64 = J ((y / 2 ^ 8 : Nat) : Int) := J_ushr y 8 (by omega) (by omega)
    rw [this, J_add]; rfl
  obtain ⟨z, hz⟩ : ∃ z, z = y + y / 2 ^ 8 := ⟨_, rfl⟩
  rw [← hz] at j10
  have j11 : J (z : Int) + ((J (z : Int)).toUInt64 >>> ((I 16).toInt64.toUInt64 &&& Int64.toUInt64 63)).toInt64 = J ((z + z / 2 ^ 16 : Nat) : Int) := by
    have : ((J (z : Int)).toUInt64 >>> ((I 16).toInt64.toUInt64 &&& Int64.toUInt64 63)).toInt64 = J ((z / 2 ^ 16 : Nat) : Int) := J_ushr z 16 (by omega) (by omega)
    rw [this, J_add]; rfl
  obtain ⟨u, hu⟩ : ∃ u, u = z + z / 2 ^ 16 := ⟨_, rfl⟩
  rw [← hu] at j11
  have j12 : J (u : Int) + ((J (u : Int)).toUInt64 >>> ((I 32).toInt64.toUInt64 &&& Int64.toUInt64 63)).toInt64 = J ((u + u / 2 ^ 32 : Nat) : Int) := by
    have : ((J (u : Int)).toUInt64 >>> ((I 32).toInt64.toUInt64 &&& Int64.toUInt64 63)).toInt64 = J ((u / 2 ^ 32 : Nat) : Int) := J_ushr u 32 (by omega) (by omega)
    rw [this, J_add]; rfl
  have j13 : ∀ v : Nat, I (v : Int) &&& I 127 = I ((v % 128 : Nat) : Int) := fun v => by
    have := I_and v 127
    rw [show v &&& 127 = v % 128 from Nat.and_two_pow_sub_one_eq_mod v 7] at this
    exact this
  have hf : (u + u / 2 ^ 32) % 128 = pc2 64 x := by rw [hu, hz]; exact hfin
  rw [zs_J13_bitCount_95d88]
  simp only [ze_J13_bitCount_95d88_0, j1, j2, j3, j4, j5, j6, j7, j8, j9, j10, j11, j12, J_toI, j13, hf]
