/-! RUNNING THE INTERPRETER: generic rows, an instruction a theorem -/
theorem zxl_gen {tb : List zQ} {d : Nat} {q : zQ} {pc : Nat} {ls st : List Value} {f : zF} {m : zM} {i : zI} (h : zfe q.i pc = some i) : zex tb d q pc ls st f m = match zstp (zrun tb d) q.r q.x i ls st f m with
    | none => none
    | some (.inr r) => some r
    | some (.inl x) => zex tb d q x.1 x.2.1 x.2.2.1 x.2.2.2.1 x.2.2.2.2 := by
  rw [zex_eq, h]
  dsimp only
  rcases zstp (zrun tb d) q.r q.x i ls st f m with _ | (x | r) <;> rfl
theorem zxl_go {tb : List zQ} {d : Nat} {q : zQ} {pc : Nat} {ls st : List Value} {f : zF} {m : zM} {i : zI} {x : Nat × List Value × List Value × zF × zM} (h : zfe q.i pc = some i) (hs : zstp (zrun tb d) q.r q.x i ls st f m = some (.inl x)) : zex tb d q pc ls st f m = zex tb d q x.1 x.2.1 x.2.2.1 x.2.2.2.1 x.2.2.2.2 := by
  rw [zxl_gen h, hs]
theorem zxl_end {tb : List zQ} {d : Nat} {q : zQ} {pc : Nat} {ls st : List Value} {f : zF} {m : zM} {i : zI} {x : zO × zF × zM} (h : zfe q.i pc = some i) (hs : zstp (zrun tb d) q.r q.x i ls st f m = some (.inr x)) : zex tb d q pc ls st f m = some x := by
  rw [zxl_gen h, hs]
/-- what a cell says: an object's class and field; an array's kind and place -/
def zco : Option zC → Nat → Nat → Bool
  | some (.inr (c, fs)), a, b => decide (c = a ∧ b < fs.length)
  | _, _, _ => false
def zcf : Option zC → Nat → Value
  | some (.inr (_, fs)), b => fs.getD b .null
  | _, _ => .null
def zcs : Option zC → Nat → Value → zC
  | some (.inr (c, fs)), b, v => .inr (c, fs.set b v)
  | _, _, _ => .inr (0, [])
def zr8 : Option zC → Int32 → Bool
  | some (.inl (t, (n, .inl _))), j => decide ((t = 0 ∨ t = 8) ∧ zib j n = true)
  | _, _ => false
def zri : Option zC → Nat → Int32 → Bool
  | some (.inl (t, (n, .inl _))), t0, j => decide (t = t0 ∧ zib j n = true)
  | _, _, _ => false
def zrl : Option zC → Int32 → Bool
  | some (.inl (t, (n, .inr (.inl _)))), j => decide (t = 1 ∧ zib j n = true)
  | _, _ => false
def zrd : Option zC → Int32 → Bool
  | some (.inl (t, (n, .inr (.inr (.inr (.inl _)))))), j => decide (t = 4 ∧ zib j n = true)
  | _, _ => false
def zrq : Option zC → Int32 → Bool
  | some (.inl (t, (n, .inr (.inr (.inr (.inr g)))))), j => decide ((t = 5 ∨ t = 6 ∨ t = 7) ∧ zib j n = true) && (g j.toNatClampNeg).isSome
  | _, _ => false
def zrs : Option zC → Option zC → Int32 → Bool
  | some (.inl (t, (n, .inr (.inr (.inr (.inr _)))))), some (.inr (c, _)), j => decide (t = 5 ∧ c = 2 ∧ zib j n = true)
  | _, _, _ => false
def zgi : Option zC → Nat → Int32
  | some (.inl (_, (_, .inl g))), j => g j
  | _, _ => 0
def zgl : Option zC → Nat → Int64
  | some (.inl (_, (_, .inr (.inl g)))), j => g j
  | _, _ => 0
def zgd : Option zC → Nat → UInt64
  | some (.inl (_, (_, .inr (.inr (.inr (.inl g)))))), j => g j
  | _, _ => 0
def zgq : Option zC → Nat → Nat
  | some (.inl (_, (_, .inr (.inr (.inr (.inr g)))))), j => (g j).getD 0
  | _, _ => 0
def zisa : Option zC → Bool
  | some (.inl _) => true
  | _ => false
def zln : Option zC → Nat
  | some (.inl (_, (n, _))) => n
  | _ => 0
def zwi : Option zC → Nat → Nat → Int32 → zC
  | some (.inl (t, (n, .inl g))), t0, j, x => .inl (t, (n, .inl (upd g j (vp_nar (zty t0) x))))
  | _, _, _, _ => .inr (0, [])
def zwl : Option zC → Nat → Int64 → zC
  | some (.inl (t, (n, .inr (.inl g)))), j, x => .inl (t, (n, .inr (.inl (vp_updL g j x))))
  | _, _, _ => .inr (0, [])
def zwd : Option zC → Nat → UInt64 → zC
  | some (.inl (t, (n, .inr (.inr (.inr (.inl g)))))), j, x => .inl (t, (n, .inr (.inr (.inr (.inl (vf_upd g j x))))))
  | _, _, _ => .inr (0, [])
def zwq : Option zC → Nat → Nat → zC
  | some (.inl (t, (n, .inr (.inr (.inr (.inr g)))))), j, x => .inl (t, (n, .inr (.inr (.inr (.inr (va_up g j (some x)))))))
  | _, _, _ => .inr (0, [])
def zisc : Option zC → Nat → Bool
  | some (.inr (d, _)), c => decide (d = c)
  | _, _ => false
/-- behind a call -/
noncomputable def zcal (tb : List zQ) (r : zR) (d : Nat) (q : zQ) (pc pc' : Nat) (ls st : List Value) : zR := match r with
  | none => none
  | some (.inl v, f', m') => zex tb d q pc' ls (v.toList ++ st) f' m'
  | some (.inr E, f', m') => match zfh q.x pc E with
    | some (t, k) => zex tb d q t (zset ls k .null) [] f' m'
    | none => some (.inr E, f', m')
theorem zcal_v {tb : List zQ} {d : Nat} {q : zQ} {pc pc' : Nat} {ls st : List Value} {f' : zF} {m' : zM} {v : Value} : zcal tb (some (.inl (some v), f', m')) d q pc pc' ls st = zex tb d q pc' ls (v :: st) f' m' := rfl
theorem zcal_n {tb : List zQ} {d : Nat} {q : zQ} {pc pc' : Nat} {ls st : List Value} {f' : zF} {m' : zM} : zcal tb (some (.inl none, f', m')) d q pc pc' ls st = zex tb d q pc' ls st f' m' := rfl
theorem zcal_x {tb : List zQ} {d : Nat} {q : zQ} {pc pc' : Nat} {ls st : List Value} {f' : zF} {m' : zM} {E : Nat} : zcal tb (some (.inr E, f', m')) d q pc pc' ls st = match zfh q.x pc E with
    | some (t, k) => zex tb d q t (zset ls k .null) [] f' m'
    | none => some (.inr E, f', m') := rfl
noncomputable def zcalI (tb : List zQ) (r : zR) (d : Nat) (q : zQ) (pc' : Nat) (ls st : List Value) : zR := match r with
  | some (.inl v, f', m') => zex tb d q pc' ls (v.toList ++ st) f' m'
  | _ => none
theorem zcalI_n {tb : List zQ} {d : Nat} {q : zQ} {pc' : Nat} {ls st : List Value} {f' : zF} {m' : zM} : zcalI tb (some (.inl none, f', m')) d q pc' ls st = zex tb d q pc' ls st f' m' := rfl
section ZX
variable {tb : List zQ} {d : Nat} {q : zQ} {pc len a b c : Nat} {ls st : List Value} {f : zF} {m : zM}
theorem zx_getfield {k p : Nat} (h : zfe q.i pc = some (pc, .getfield k, len, a, b, c)) : zex tb d q pc ls (.ref p :: st) f m = if zco (f p) a b = true then zex tb d q (pc + 3) ls (zcf (f p) b :: st) f m else none := by
  rw [zxl_gen h]
  show (match zgf pc ls (.ref p :: st) f m a b with
    | none => none
    | some (.inr r) => some r
    | some (.inl x) => zex tb d q x.1 x.2.1 x.2.2.1 x.2.2.2.1 x.2.2.2.2) = _
  unfold zgf zco zcf znx
  dsimp only
  rcases hp : f p with _ | (x | ⟨c0, fs⟩)
  · rfl
  · rfl
  · by_cases hq : c0 = a ∧ b < fs.length
    · dsimp only
      rw [if_pos hq]
      exact (if_pos (decide_eq_true hq)).symm
    · dsimp only
      rw [if_neg hq]
      exact (if_neg (fun z => hq (of_decide_eq_true z))).symm
theorem zx_putfield {k p : Nat} {v : Value} (h : zfe q.i pc = some (pc, .putfield k, len, a, b, c)) : zex tb d q pc ls (v :: .ref p :: st) f m = if (zco (f p) a b && zok (zfty a b) v) = true then zex tb d q (pc + 3) ls st (zup f p (zcs (f p) b v)) m else none := by
  rw [zxl_gen h]
  show (match zpf pc ls (v :: .ref p :: st) f m a b with
    | none => none
    | some (.inr r) => some r
    | some (.inl x) => zex tb d q x.1 x.2.1 x.2.2.1 x.2.2.2.1 x.2.2.2.2) = _
  unfold zpf zco zcs znx
  dsimp only
  rcases hp : f p with _ | (x | ⟨c0, fs⟩)
  · rfl
  · rfl
  · by_cases hq : c0 = a ∧ b < fs.length
    · by_cases h2 : zok (zfty a b) v = true
      · dsimp only
        rw [if_pos ⟨hq.1, hq.2, h2⟩]
        exact (if_pos (Bool.and_eq_true_iff.mpr ⟨decide_eq_true hq, h2⟩)).symm
      · dsimp only
        rw [if_neg (fun z => h2 z.2.2)]
        exact (if_neg (fun z => h2 (Bool.and_eq_true_iff.mp z).2)).symm
    · dsimp only
      rw [if_neg (fun z => hq ⟨z.1, z.2.1⟩)]
      exact (if_neg (fun z => hq (of_decide_eq_true (Bool.and_eq_true_iff.mp z).1))).symm
theorem zx_iaload {p : Nat} {j : Int32} (h : zfe q.i pc = some (pc, .iaload, len, a, b, c)) : zex tb d q pc ls (.int j :: .ref p :: st) f m = if zr8 (f p) j = true then zex tb d q (pc + 1) ls (.int (zgi (f p) j.toNatClampNeg) :: st) f m else none := by
  rw [zxl_gen h]
  show (match zai pc ls (.int j :: .ref p :: st) f m with
    | none => none
    | some (.inr r) => some r
    | some (.inl x) => zex tb d q x.1 x.2.1 x.2.2.1 x.2.2.2.1 x.2.2.2.2) = _
  unfold zai zr8 zgi znx
  dsimp only
  rcases hp : f p with _ | (⟨t, n, g | g | g | g | g⟩ | ⟨c0, fs⟩)
  · rfl
  · by_cases hq : (t = 0 ∨ t = 8) ∧ zib j n = true
    · dsimp only
      rw [if_pos hq]
      exact (if_pos (decide_eq_true hq)).symm
    · dsimp only
      rw [if_neg hq]
      exact (if_neg (fun z => hq (of_decide_eq_true z))).symm
  · rfl
  · rfl
  · rfl
  · rfl
  · rfl
theorem zx_baload {p : Nat} {j : Int32} (h : zfe q.i pc = some (pc, .baload, len, a, b, c)) : zex tb d q pc ls (.int j :: .ref p :: st) f m = if zri (f p) 2 j = true then zex tb d q (pc + 1) ls (.int (zgi (f p) j.toNatClampNeg) :: st) f m else none := by
  rw [zxl_gen h]
  show (match zali pc ls (.int j :: .ref p :: st) f m 2 with
    | none => none
    | some (.inr r) => some r
    | some (.inl x) => zex tb d q x.1 x.2.1 x.2.2.1 x.2.2.2.1 x.2.2.2.2) = _
  unfold zali zri zgi znx
  dsimp only
  rcases hp : f p with _ | (⟨t, n, g | g | g | g | g⟩ | ⟨c0, fs⟩)
  · rfl
  · by_cases hq : t = 2 ∧ zib j n = true
    · dsimp only
      rw [if_pos hq]
      exact (if_pos (decide_eq_true hq)).symm
    · dsimp only
      rw [if_neg hq]
      exact (if_neg (fun z => hq (of_decide_eq_true z))).symm
  · rfl
  · rfl
  · rfl
  · rfl
  · rfl
theorem zx_caload {p : Nat} {j : Int32} (h : zfe q.i pc = some (pc, .caload, len, a, b, c)) : zex tb d q pc ls (.int j :: .ref p :: st) f m = if zri (f p) 3 j = true then zex tb d q (pc + 1) ls (.int (zgi (f p) j.toNatClampNeg) :: st) f m else none := by
  rw [zxl_gen h]
  show (match zali pc ls (.int j :: .ref p :: st) f m 3 with
    | none => none
    | some (.inr r) => some r
    | some (.inl x) => zex tb d q x.1 x.2.1 x.2.2.1 x.2.2.2.1 x.2.2.2.2) = _
  unfold zali zri zgi znx
  dsimp only
  rcases hp : f p with _ | (⟨t, n, g | g | g | g | g⟩ | ⟨c0, fs⟩)
  · rfl
  · by_cases hq : t = 3 ∧ zib j n = true
    · dsimp only
      rw [if_pos hq]
      exact (if_pos (decide_eq_true hq)).symm
    · dsimp only
      rw [if_neg hq]
      exact (if_neg (fun z => hq (of_decide_eq_true z))).symm
  · rfl
  · rfl
  · rfl
  · rfl
  · rfl
theorem zx_laload {p : Nat} {j : Int32} (h : zfe q.i pc = some (pc, .laload, len, a, b, c)) : zex tb d q pc ls (.int j :: .ref p :: st) f m = if zrl (f p) j = true then zex tb d q (pc + 1) ls (.long (zgl (f p) j.toNatClampNeg) :: st) f m else none := by
  rw [zxl_gen h]
  show (match zall pc ls (.int j :: .ref p :: st) f m with
    | none => none
    | some (.inr r) => some r
    | some (.inl x) => zex tb d q x.1 x.2.1 x.2.2.1 x.2.2.2.1 x.2.2.2.2) = _
  unfold zall zrl zgl znx
  dsimp only
  rcases hp : f p with _ | (⟨t, n, g | g | g | g | g⟩ | ⟨c0, fs⟩)
  · rfl
  · rfl
  · by_cases hq : t = 1 ∧ zib j n = true
    · dsimp only
      rw [if_pos hq]
      exact (if_pos (decide_eq_true hq)).symm
    · dsimp only
      rw [if_neg hq]
      exact (if_neg (fun z => hq (of_decide_eq_true z))).symm
  · rfl
  · rfl
  · rfl
  · rfl
theorem zx_daload {p : Nat} {j : Int32} (h : zfe q.i pc = some (pc, .daload, len, a, b, c)) : zex tb d q pc ls (.int j :: .ref p :: st) f m = if zrd (f p) j = true then zex tb d q (pc + 1) ls (.double (zgd (f p) j.toNatClampNeg) :: st) f m else none := by
  rw [zxl_gen h]
  show (match zald pc ls (.int j :: .ref p :: st) f m with
    | none => none
    | some (.inr r) => some r
    | some (.inl x) => zex tb d q x.1 x.2.1 x.2.2.1 x.2.2.2.1 x.2.2.2.2) = _
  unfold zald zrd zgd znx
  dsimp only
  rcases hp : f p with _ | (⟨t, n, g | g | g | g | g⟩ | ⟨c0, fs⟩)
  · rfl
  · rfl
  · rfl
  · rfl
  · by_cases hq : t = 4 ∧ zib j n = true
    · dsimp only
      rw [if_pos hq]
      exact (if_pos (decide_eq_true hq)).symm
    · dsimp only
      rw [if_neg hq]
      exact (if_neg (fun z => hq (of_decide_eq_true z))).symm
  · rfl
  · rfl
theorem zx_iastore {p : Nat} {j x : Int32} (h : zfe q.i pc = some (pc, .iastore, len, a, b, c)) : zex tb d q pc ls (.int x :: .int j :: .ref p :: st) f m = if zri (f p) 0 j = true then zex tb d q (pc + 1) ls st (zup f p (zwi (f p) 0 j.toNatClampNeg x)) m else none := by
  rw [zxl_gen h]
  show (match zasi pc ls (.int x :: .int j :: .ref p :: st) f m 0 with
    | none => none
    | some (.inr r) => some r
    | some (.inl x) => zex tb d q x.1 x.2.1 x.2.2.1 x.2.2.2.1 x.2.2.2.2) = _
  unfold zasi zri zwi znx
  dsimp only
  rcases hp : f p with _ | (⟨t, n, g | g | g | g | g⟩ | ⟨c0, fs⟩)
  · rfl
  · by_cases hq : t = 0 ∧ zib j n = true
    · dsimp only
      rw [if_pos hq]
      exact (if_pos (decide_eq_true hq)).symm
    · dsimp only
      rw [if_neg hq]
      exact (if_neg (fun z => hq (of_decide_eq_true z))).symm
  · rfl
  · rfl
  · rfl
  · rfl
  · rfl
theorem zx_bastore {p : Nat} {j x : Int32} (h : zfe q.i pc = some (pc, .bastore, len, a, b, c)) : zex tb d q pc ls (.int x :: .int j :: .ref p :: st) f m = if zri (f p) 2 j = true then zex tb d q (pc + 1) ls st (zup f p (zwi (f p) 2 j.toNatClampNeg x)) m else none := by
  rw [zxl_gen h]
  show (match zasi pc ls (.int x :: .int j :: .ref p :: st) f m 2 with
    | none => none
    | some (.inr r) => some r
    | some (.inl x) => zex tb d q x.1 x.2.1 x.2.2.1 x.2.2.2.1 x.2.2.2.2) = _
  unfold zasi zri zwi znx
  dsimp only
  rcases hp : f p with _ | (⟨t, n, g | g | g | g | g⟩ | ⟨c0, fs⟩)
  · rfl
  · by_cases hq : t = 2 ∧ zib j n = true
    · dsimp only
      rw [if_pos hq]
      exact (if_pos (decide_eq_true hq)).symm
    · dsimp only
      rw [if_neg hq]
      exact (if_neg (fun z => hq (of_decide_eq_true z))).symm
  · rfl
  · rfl
  · rfl
  · rfl
  · rfl
theorem zx_castore {p : Nat} {j x : Int32} (h : zfe q.i pc = some (pc, .castore, len, a, b, c)) : zex tb d q pc ls (.int x :: .int j :: .ref p :: st) f m = if zri (f p) 3 j = true then zex tb d q (pc + 1) ls st (zup f p (zwi (f p) 3 j.toNatClampNeg x)) m else none := by
  rw [zxl_gen h]
  show (match zasi pc ls (.int x :: .int j :: .ref p :: st) f m 3 with
    | none => none
    | some (.inr r) => some r
    | some (.inl x) => zex tb d q x.1 x.2.1 x.2.2.1 x.2.2.2.1 x.2.2.2.2) = _
  unfold zasi zri zwi znx
  dsimp only
  rcases hp : f p with _ | (⟨t, n, g | g | g | g | g⟩ | ⟨c0, fs⟩)
  · rfl
  · by_cases hq : t = 3 ∧ zib j n = true
    · dsimp only
      rw [if_pos hq]
      exact (if_pos (decide_eq_true hq)).symm
    · dsimp only
      rw [if_neg hq]
      exact (if_neg (fun z => hq (of_decide_eq_true z))).symm
  · rfl
  · rfl
  · rfl
  · rfl
  · rfl
theorem zx_lastore {p : Nat} {j : Int32} {x : Int64} (h : zfe q.i pc = some (pc, .lastore, len, a, b, c)) : zex tb d q pc ls (.long x :: .int j :: .ref p :: st) f m = if zrl (f p) j = true then zex tb d q (pc + 1) ls st (zup f p (zwl (f p) j.toNatClampNeg x)) m else none := by
  rw [zxl_gen h]
  show (match zasl pc ls (.long x :: .int j :: .ref p :: st) f m with
    | none => none
    | some (.inr r) => some r
    | some (.inl x) => zex tb d q x.1 x.2.1 x.2.2.1 x.2.2.2.1 x.2.2.2.2) = _
  unfold zasl zrl zwl znx
  dsimp only
  rcases hp : f p with _ | (⟨t, n, g | g | g | g | g⟩ | ⟨c0, fs⟩)
  · rfl
  · rfl
  · by_cases hq : t = 1 ∧ zib j n = true
    · dsimp only
      rw [if_pos hq]
      exact (if_pos (decide_eq_true hq)).symm
    · dsimp only
      rw [if_neg hq]
      exact (if_neg (fun z => hq (of_decide_eq_true z))).symm
  · rfl
  · rfl
  · rfl
  · rfl
theorem zx_dastore {p : Nat} {j : Int32} {x : UInt64} (h : zfe q.i pc = some (pc, .dastore, len, a, b, c)) : zex tb d q pc ls (.double x :: .int j :: .ref p :: st) f m = if zrd (f p) j = true then zex tb d q (pc + 1) ls st (zup f p (zwd (f p) j.toNatClampNeg x)) m else none := by
  rw [zxl_gen h]
  show (match zasd pc ls (.double x :: .int j :: .ref p :: st) f m with
    | none => none
    | some (.inr r) => some r
    | some (.inl x) => zex tb d q x.1 x.2.1 x.2.2.1 x.2.2.2.1 x.2.2.2.2) = _
  unfold zasd zrd zwd znx
  dsimp only
  rcases hp : f p with _ | (⟨t, n, g | g | g | g | g⟩ | ⟨c0, fs⟩)
  · rfl
  · rfl
  · rfl
  · rfl
  · by_cases hq : t = 4 ∧ zib j n = true
    · dsimp only
      rw [if_pos hq]
      exact (if_pos (decide_eq_true hq)).symm
    · dsimp only
      rw [if_neg hq]
      exact (if_neg (fun z => hq (of_decide_eq_true z))).symm
  · rfl
  · rfl
theorem zx_aaload {p : Nat} {j : Int32} (h : zfe q.i pc = some (pc, .aaload, len, a, b, c)) : zex tb d q pc ls (.int j :: .ref p :: st) f m = if zrq (f p) j = true then zex tb d q (pc + 1) ls (.ref (zgq (f p) j.toNatClampNeg) :: st) f m else none := by
  rw [zxl_gen h]
  show (match zala pc ls (.int j :: .ref p :: st) f m with
    | none => none
    | some (.inr r) => some r
    | some (.inl x) => zex tb d q x.1 x.2.1 x.2.2.1 x.2.2.2.1 x.2.2.2.2) = _
  unfold zala zrq zgq znx
  dsimp only
  rcases hp : f p with _ | (⟨t, n, g | g | g | g | g⟩ | ⟨c0, fs⟩)
  · rfl
  · rfl
  · rfl
  · rfl
  · rfl
  · by_cases hq : (t = 5 ∨ t = 6 ∨ t = 7) ∧ zib j n = true
    · dsimp only
      rw [if_pos hq]
      by_cases hs : (g j.toNatClampNeg).isSome = true
      · refine Eq.trans ?_ (if_pos (Bool.and_eq_true_iff.mpr ⟨decide_eq_true hq, hs⟩)).symm
        revert hs
        rcases g j.toNatClampNeg with _ | y
        · intro hs; cases hs
        · intro hs; rfl
      · refine Eq.trans ?_ (if_neg (fun z => hs (Bool.and_eq_true_iff.mp z).2)).symm
        revert hs
        rcases g j.toNatClampNeg with _ | y
        · intro hs; rfl
        · intro hs; exact absurd rfl hs
    · dsimp only
      rw [if_neg hq]
      exact (if_neg (fun z => hq (of_decide_eq_true (Bool.and_eq_true_iff.mp z).1))).symm
  · rfl
theorem zx_aastore {p v : Nat} {j : Int32} (h : zfe q.i pc = some (pc, .aastore, len, a, b, c)) : zex tb d q pc ls (.ref v :: .int j :: .ref p :: st) f m = if zrs (f p) (f v) j = true then zex tb d q (pc + 1) ls st (zup f p (zwq (f p) j.toNatClampNeg v)) m else none := by
  rw [zxl_gen h]
  show (match zasa pc ls (.ref v :: .int j :: .ref p :: st) f m with
    | none => none
    | some (.inr r) => some r
    | some (.inl x) => zex tb d q x.1 x.2.1 x.2.2.1 x.2.2.2.1 x.2.2.2.2) = _
  unfold zasa zrs zwq znx
  dsimp only
  rcases hp : f p with _ | (⟨t, n, g | g | g | g | g⟩ | ⟨c0, fs⟩)
  · rfl
  · rfl
  · rfl
  · rfl
  · rfl
  · rcases hv : f v with _ | (y | ⟨c1, fs⟩)
    · rfl
    · rfl
    · by_cases hq : t = 5 ∧ c1 = 2 ∧ zib j n = true
      · dsimp only
        rw [if_pos hq]
        exact (if_pos (decide_eq_true hq)).symm
      · dsimp only
        rw [if_neg hq]
        exact (if_neg (fun z => hq (of_decide_eq_true z))).symm
  · rfl
theorem zx_alen {p : Nat} (h : zfe q.i pc = some (pc, .arraylength, len, a, b, c)) : zex tb d q pc ls (.ref p :: st) f m = if zisa (f p) = true then zex tb d q (pc + 1) ls (.int (Int32.ofNat (zln (f p))) :: st) f m else none := by
  rw [zxl_gen h]
  show (match zal pc ls (.ref p :: st) f m with
    | none => none
    | some (.inr r) => some r
    | some (.inl x) => zex tb d q x.1 x.2.1 x.2.2.1 x.2.2.2.1 x.2.2.2.2) = _
  unfold zal zisa zln znx
  dsimp only
  rcases hp : f p with _ | (⟨t, n, g⟩ | ⟨c0, fs⟩)
  · rfl
  · rfl
  · rfl
theorem zx_if {k : Jvm.ClassFile.Cond} {off : Int} {tgt : Nat} {x : Int32} (h : zfe q.i pc = some (pc, .ifCond k off, len, a, b, c)) (ht : (pc : Int) + off = (tgt : Int)) : zex tb d q pc ls (.int x :: st) f m = if zc1 k x = true then zex tb d q tgt ls st f m else zex tb d q (pc + 3) ls st f m := by
  rw [zxl_gen h]
  show (match zif pc ls (.int x :: st) f m k off with
    | none => none
    | some (.inr r) => some r
    | some (.inl x) => zex tb d q x.1 x.2.1 x.2.2.1 x.2.2.2.1 x.2.2.2.2) = _
  unfold zif
  dsimp only
  rw [if_pos (by rw [ht]; exact Int.natCast_nonneg _), ht]
  by_cases hz : zc1 k x = true
  · rw [if_pos hz, if_pos hz]; rfl
  · rw [if_neg hz, if_neg hz]
theorem zx_icmp {k : Jvm.ClassFile.Cond} {off : Int} {tgt : Nat} {x y : Int32} (h : zfe q.i pc = some (pc, .if_icmp k off, len, a, b, c)) (ht : (pc : Int) + off = (tgt : Int)) : zex tb d q pc ls (.int y :: .int x :: st) f m = if zc2 k x y = true then zex tb d q tgt ls st f m else zex tb d q (pc + 3) ls st f m := by
  rw [zxl_gen h]
  show (match zic pc ls (.int y :: .int x :: st) f m k off with
    | none => none
    | some (.inr r) => some r
    | some (.inl x) => zex tb d q x.1 x.2.1 x.2.2.1 x.2.2.2.1 x.2.2.2.2) = _
  unfold zic
  dsimp only
  rw [if_pos (by rw [ht]; exact Int.natCast_nonneg _), ht]
  by_cases hz : zc2 k x y = true
  · rw [if_pos hz, if_pos hz]; rfl
  · rw [if_neg hz, if_neg hz]
theorem zx_goto {off : Int} {tgt : Nat} (h : zfe q.i pc = some (pc, .goto off, len, a, b, c)) (ht : (pc : Int) + off = (tgt : Int)) : zex tb d q pc ls st f m = zex tb d q tgt ls st f m := by
  rw [zxl_gen h]
  show (match zjp pc off ls st f m with
    | none => none
    | some (.inr r) => some r
    | some (.inl x) => zex tb d q x.1 x.2.1 x.2.2.1 x.2.2.2.1 x.2.2.2.2) = _
  unfold zjp
  rw [if_pos (by rw [ht]; exact Int.natCast_nonneg _), ht]
  rfl
theorem zx_idiv {x y : Int32} (h : zfe q.i pc = some (pc, .idiv, len, a, b, c)) : zex tb d q pc ls (.int y :: .int x :: st) f m = if ¬ y = 0 then zex tb d q (pc + 1) ls (.int (x / y) :: st) f m else none := by
  rw [zxl_gen h]
  show (match (if y = 0 then none else znx pc 1 ls (.int (x / y) :: st) f m) with
    | none => none
    | some (.inr r) => some r
    | some (.inl x) => zex tb d q x.1 x.2.1 x.2.2.1 x.2.2.2.1 x.2.2.2.2) = _
  by_cases hy : y = 0
  · rw [if_pos hy, if_neg (fun z => z hy)]
  · rw [if_neg hy, if_pos hy]; rfl
theorem zx_irem {x y : Int32} (h : zfe q.i pc = some (pc, .irem, len, a, b, c)) : zex tb d q pc ls (.int y :: .int x :: st) f m = if ¬ y = 0 then zex tb d q (pc + 1) ls (.int (x - x / y * y) :: st) f m else none := by
  rw [zxl_gen h]
  show (match (if y = 0 then none else znx pc 1 ls (.int (x - x / y * y) :: st) f m) with
    | none => none
    | some (.inr r) => some r
    | some (.inl x) => zex tb d q x.1 x.2.1 x.2.2.1 x.2.2.2.1 x.2.2.2.2) = _
  by_cases hy : y = 0
  · rw [if_pos hy, if_neg (fun z => z hy)]
  · rw [if_neg hy, if_pos hy]; rfl
theorem zx_ddiv {x y : UInt64} (h : zfe q.i pc = some (pc, .ddiv, len, a, b, c)) : zex tb d q pc ls (.double y :: .double x :: st) f m = if FP.ddiv x y &&& 0x7fffffffffffffff ≤ 0x7ff0000000000000 then zex tb d q (pc + 1) ls (.double (FP.ddiv x y) :: st) f m else none := by
  rw [zxl_gen h]
  show (match (if FP.ddiv x y &&& 0x7fffffffffffffff ≤ 0x7ff0000000000000 then znx pc 1 ls (.double (FP.ddiv x y) :: st) f m else none) with
    | none => none
    | some (.inr r) => some r
    | some (.inl x) => zex tb d q x.1 x.2.1 x.2.2.1 x.2.2.2.1 x.2.2.2.2) = _
  by_cases hy : FP.ddiv x y &&& 0x7fffffffffffffff ≤ 0x7ff0000000000000
  · rw [if_pos hy, if_pos hy]; rfl
  · rw [if_neg hy, if_neg hy]
theorem zx_sw {dflt lo hi : Int} {offs : Array Int} {x : Int32} (h : zfe q.i pc = some (pc, .tableswitch dflt lo hi offs, len, a, b, c)) : zex tb d q pc ls (.int x :: st) f m = match zsw pc ls (.int x :: st) f m dflt lo hi offs with
    | none => none
    | some (.inr r) => some r
    | some (.inl x) => zex tb d q x.1 x.2.1 x.2.2.1 x.2.2.2.1 x.2.2.2.2 := by
  rw [zxl_gen h]
  rfl
theorem zinv_cal {vs : List Value} {pc' : Nat} (hb : b ≤ st.length) (hv : (st.take b).reverse = vs) (hp : pc + 3 = pc') : (match zinv (zrun tb d) q.x pc 3 ls st f m a b with
    | none => none
    | some (.inr r) => some r
    | some (.inl x) => zex tb d q x.1 x.2.1 x.2.2.1 x.2.2.2.1 x.2.2.2.2) = if zsz (st.drop b) ≤ 8 then zcal tb (zrun tb d a vs f m) d q pc pc' ls (st.drop b) else none := by
  subst hv
  subst hp
  unfold zinv
  by_cases h4 : zsz (st.drop b) ≤ 8
  · rw [if_pos ⟨hb, h4⟩, if_pos h4]
    unfold zcal znx
    rcases zrun tb d a (st.take b).reverse f m with _ | ⟨o | E, f', m'⟩
    · rfl
    · rfl
    · dsimp only
      rcases zfh q.x pc E with _ | ⟨t, k⟩ <;> rfl
  · rw [if_neg (fun z => h4 z.2), if_neg h4]
theorem zx_static {k pc' : Nat} {vs : List Value} (h : zfe q.i pc = some (pc, .invokestatic k, len, a, b, c)) (hb : b ≤ st.length) (hv : (st.take b).reverse = vs) (hp : pc + 3 = pc') : zex tb d q pc ls st f m = if zsz (st.drop b) ≤ 8 then zcal tb (zrun tb d a vs f m) d q pc pc' ls (st.drop b) else none := by
  rw [zxl_gen h]
  exact zinv_cal hb hv hp
theorem zx_virtual {k pc' p : Nat} {vs : List Value} (h : zfe q.i pc = some (pc, .invokevirtual k, len, a, b, c)) (hb : b ≤ st.length) (hv : (st.take b).reverse = .ref p :: vs) (hp : pc + 3 = pc') : zex tb d q pc ls st f m = if (zisc (f p) c && decide (zsz (st.drop b) ≤ 8)) = true then zcal tb (zrun tb d a (.ref p :: vs) f m) d q pc pc' ls (st.drop b) else none := by
  rw [zxl_gen h]
  have hz : zrc f st b c = zisc (f p) c := by
    unfold zrc
    rw [List.getLast?_eq_head?_reverse, hv]
    dsimp only [List.head?_cons]
    unfold zisc
    rcases f p with _ | (x | ⟨c0, fs⟩) <;> rfl
  show (match (if zrc f st b c = true then zinv (zrun tb d) q.x pc 3 ls st f m a b else none) with
    | none => none
    | some (.inr r) => some r
    | some (.inl x) => zex tb d q x.1 x.2.1 x.2.2.1 x.2.2.2.1 x.2.2.2.2) = _
  rw [hz]
  by_cases hc : zisc (f p) c = true
  · rw [if_pos hc, zinv_cal hb hv hp, hc, Bool.true_and]
    by_cases h4 : zsz (st.drop b) ≤ 8
    · rw [if_pos h4, decide_eq_true h4, if_pos rfl]
    · rw [if_neg h4, decide_eq_false h4]; rfl
  · rw [if_neg hc]
    rw [Bool.not_eq_true] at hc
    rw [hc]; rfl
theorem zx_virtual4 {k pc' p : Nat} {vs : List Value} (h : zfe q.i pc = some (pc, .invokevirtual k, len, a, b, c)) (hb : b ≤ st.length) (hv : (st.take b).reverse = .ref p :: vs) (hp : pc + 3 = pc') (h4 : zsz (st.drop b) ≤ 8) : zex tb d q pc ls st f m = if zisc (f p) c = true then zcal tb (zrun tb d a (.ref p :: vs) f m) d q pc pc' ls (st.drop b) else none := by
  rw [zx_virtual h hb hv hp, decide_eq_true h4, Bool.and_true]
theorem zsw_d {dflt lo hi : Int} {offs : Array Int} {x : Int32} {t : Nat} (hs : x.toInt < lo ∨ hi < x.toInt) (ht : (pc : Int) + dflt = (t : Int)) : (match zsw pc ls (.int x :: st) f m dflt lo hi offs with
    | none => none
    | some (.inr r) => some r
    | some (.inl x) => zex tb d q x.1 x.2.1 x.2.2.1 x.2.2.2.1 x.2.2.2.2) = zex tb d q t ls st f m := by
  unfold zsw
  dsimp only
  rw [if_pos hs]
  unfold zjp
  rw [if_pos (by rw [ht]; exact Int.natCast_nonneg _), ht]
  rfl
theorem zx_special {k pc' p : Nat} {vs : List Value} (h : zfe q.i pc = some (pc, .invokespecial k, len, a, b, c)) (h0 : b ≠ 0) (hb : b ≤ st.length) (hv : (st.take b).reverse = .ref p :: vs) (hp : pc + 3 = pc') : zex tb d q pc ls st f m = if zsz (st.drop b) ≤ 8 then zcalI tb (zrun tb d a (.ref p :: vs) f m) d q pc' ls (st.drop b) else none := by
  rw [zxl_gen h]
  have hl : (st.take b).getLast? = some (.ref p) := by rw [List.getLast?_eq_head?_reverse, hv]; rfl
  show (match (if b = 0 then (match st with
          | .ref _ :: r => if zsz r ≤ 8 then znx pc 3 ls r f m else none
          | _ => none) else match (st.take b).getLast? with
          | some (.ref _) => zinvI (zrun tb d) pc 3 ls st f m a b
          | _ => none) with
    | none => none
    | some (.inr r) => some r
    | some (.inl x) => zex tb d q x.1 x.2.1 x.2.2.1 x.2.2.2.1 x.2.2.2.2) = _
  rw [if_neg h0, hl]
  dsimp only
  subst hp
  unfold zinvI
  by_cases h4 : zsz (st.drop b) ≤ 8
  · rw [if_pos ⟨hb, h4⟩, if_pos h4, ← hv]
    unfold zcalI znx
    rcases zrun tb d a (st.take b).reverse f m with _ | ⟨o | E, f', m'⟩ <;> rfl
  · rw [if_neg (fun z => h4 z.2), if_neg h4]
theorem zx_objinit {k p : Nat} (h : zfe q.i pc = some (pc, .invokespecial k, len, a, 0, c)) (h4 : zsz st ≤ 8) : zex tb d q pc ls (.ref p :: st) f m = zex tb d q (pc + 3) ls st f m := by
  refine zxl_go (x := (pc + 3, ls, st, f, m)) h ?_
  show (if zsz st ≤ 8 then znx pc 3 ls st f m else none) = _
  rw [if_pos h4]
  rfl
theorem zx_throw {k : Nat} (h : zfe q.i pc = some (pc, .new k, len, a, b + 1, c)) (h4 : zsz st ≤ 8) : zex tb d q pc ls st f m = some (.inr a, f, (none, m.2.1 + 1, m.2.2 + 6)) := by
  refine zxl_end h ?_
  obtain ⟨mo, k0, n0⟩ := m
  show (if zsz st ≤ 8 then some (Sum.inr (Sum.inr a, f, ((none : Option Nat), k0 + 1, n0 + 6))) else none) = _
  rw [if_pos h4]
theorem zx_new {k nx kk n : Nat} (h : zfe q.i pc = some (pc, .new k, len, a, 0, c)) (ha : a < zfn.length) : zex tb d q pc ls st f (some nx, kk, n) = zex tb d q (pc + 3) ls (.ref nx :: st) (zup f nx (.inr (a, zdf a))) (some (nx + 1), kk + 1, n + zfn.getD a 0) := by
  refine zxl_go (x := (pc + 3, ls, .ref nx :: st, zup f nx (.inr (a, zdf a)), (some (nx + 1), kk + 1, n + zfn.getD a 0))) h ?_
  show (if a < zfn.length then _ else _) = _
  rw [if_pos ha]
  rfl
theorem zx_newarr {t : Jvm.ClassFile.ArrayType} {g : (Nat → Int32) ⊕ (Nat → Int64) ⊕ (Nat → UInt32) ⊕ (Nat → UInt64) ⊕ (Nat → Option Nat)} {x : Int32} {N nx kk n : Nat} (h : zfe q.i pc = some (pc, .newarray t, len, a, b, c)) (hg : zna (ztag t) = some g) (hx : ¬ x < 0 ∧ x.toNatClampNeg ≤ 10000) (hN : x.toNatClampNeg = N) : zex tb d q pc ls (.int x :: st) f (some nx, kk, n) = zex tb d q (pc + 2) ls (.ref nx :: st) (zup f nx (.inl (ztag t, (N, g)))) (some (nx + 1), kk + 1, n + N) := by
  subst hN
  refine zxl_go (x := (pc + 2, ls, .ref nx :: st, _, _)) h ?_
  show znwa pc ls (.int x :: st) f (some nx, kk, n) (ztag t) = _
  unfold znwa
  rw [hg]
  dsimp only
  rw [if_pos hx]
  rfl
theorem zx_anew {k : Nat} {x : Int32} {N nx kk n : Nat} (h : zfe q.i pc = some (pc, .anewarray k, len, a, b, c)) (hx : ¬ x < 0 ∧ x.toNatClampNeg ≤ 10000) (hN : x.toNatClampNeg = N) : zex tb d q pc ls (.int x :: st) f (some nx, kk, n) = zex tb d q (pc + 3) ls (.ref nx :: st) (zup f nx (.inl (5, (N, .inr (.inr (.inr (.inr (fun _ => none)))))))) (some (nx + 1), kk + 1, n + N) := by
  subst hN
  refine zxl_go (x := (pc + 3, ls, .ref nx :: st, _, _)) h ?_
  show znqa pc ls (.int x :: st) f (some nx, kk, n) = _
  unfold znqa
  dsimp only
  rw [if_pos hx]
  rfl
theorem zx_multi {k1 k2 : Nat} {g : (Nat → Int32) ⊕ (Nat → Int64) ⊕ (Nat → UInt32) ⊕ (Nat → UInt64) ⊕ (Nat → Option Nat)} {x y : Int32} {N K nx kk n : Nat} (h : zfe q.i pc = some (pc, .multianewarray k1 k2, len, a, b, c)) (hg : zna a = some g) (hx : a < 2 ∧ ¬ x < 0 ∧ ¬ y < 0 ∧ x.toNatClampNeg ≤ 10000 ∧ y.toNatClampNeg ≤ 10000) (hN : x.toNatClampNeg = N) (hK : y.toNatClampNeg = K) : zex tb d q pc ls (.int y :: .int x :: st) f (some nx, kk, n) = zex tb d q (pc + 4) ls (.ref nx :: st) (zmf f nx N K a g) (some (nx + (1 + N)), kk + (1 + N), n + (N + N * K)) := by
  subst hN
  subst hK
  refine zxl_go (x := (pc + 4, ls, .ref nx :: st, _, _)) h ?_
  show znma pc ls (.int y :: .int x :: st) f (some nx, kk, n) a = _
  unfold znma
  rw [hg]
  dsimp only
  rw [if_pos hx]
  rfl
theorem zx_iret {x : Int32} (h : zfe q.i pc = some (pc, .ireturn, len, a, b, c)) (hr : zokr q.r (some (.int x)) = true) : zex tb d q pc ls [.int x] f m = some (.inl (some (.int x)), f, m) := by
  refine zxl_end h ?_
  show (if zokr q.r (some (.int x)) = true then _ else _) = _
  rw [if_pos hr]
theorem zx_bret {x : Int32} (h : zfe q.i pc = some (pc, .ireturn, len, a, b, c)) (hr : q.r = some .boolean) : zex tb d q pc ls [.int x] f m = if (x = 0 ∨ x = 1) then some (.inl (some (.int x)), f, m) else none := by
  by_cases hx : x = 0 ∨ x = 1
  · rw [if_pos hx]
    exact zx_iret h (by rw [hr]; exact decide_eq_true hx)
  · rw [if_neg hx, zxl_gen h]
    have e : zstp (zrun tb d) q.r q.x (pc, .ireturn, len, a, b, c) ls [.int x] f m = none := by
      show (if zokr q.r (some (.int x)) = true then _ else _) = _
      rw [if_neg]
      rw [hr]
      exact fun z => hx (of_decide_eq_true z)
    rw [e]
theorem zx_lret {x : Int64} (h : zfe q.i pc = some (pc, .lreturn, len, a, b, c)) (hr : zokr q.r (some (.long x)) = true) : zex tb d q pc ls [.long x] f m = some (.inl (some (.long x)), f, m) := by
  refine zxl_end h ?_
  show (if zokr q.r (some (.long x)) = true then _ else _) = _
  rw [if_pos hr]
theorem zx_dret {x : UInt64} (h : zfe q.i pc = some (pc, .dreturn, len, a, b, c)) (hr : zokr q.r (some (.double x)) = true) : zex tb d q pc ls [.double x] f m = some (.inl (some (.double x)), f, m) := by
  refine zxl_end h ?_
  show (if zokr q.r (some (.double x)) = true then _ else _) = _
  rw [if_pos hr]
theorem zx_aret {x : Nat} (h : zfe q.i pc = some (pc, .areturn, len, a, b, c)) (hr : zokr q.r (some (.ref x)) = true) : zex tb d q pc ls [.ref x] f m = some (.inl (some (.ref x)), f, m) := by
  refine zxl_end h ?_
  show (if zokr q.r (some (.ref x)) = true then _ else _) = _
  rw [if_pos hr]
theorem zx_ret (h : zfe q.i pc = some (pc, .return_, len, a, b, c)) (hr : zokr q.r none = true) : zex tb d q pc ls [] f m = some (.inl none, f, m) := by
  refine zxl_end h ?_
  show (if zokr q.r none = true then _ else _) = _
  rw [if_pos hr]
/-- numbers: an int is I of an integer, a long J of one -/
def I (n : Int) : Int32 := Int32.ofInt n
def J (n : Int) : Int64 := Int64.ofInt n
theorem zx_iconst {n : Int} (h : zfe q.i pc = some (pc, .iconst n, len, a, b, c)) : zex tb d q pc ls st f m = zex tb d q (pc + 1) ls (.int (I n) :: st) f m := zxl_go (x := (pc + 1, ls, .int (I n) :: st, f, m)) h rfl
theorem zx_bipush {n : Int} (h : zfe q.i pc = some (pc, .bipush n, len, a, b, c)) (hn : (Int8.ofInt n).toInt32 = I n) : zex tb d q pc ls st f m = zex tb d q (pc + 2) ls (.int (I n) :: st) f m := by
  rw [← hn]; exact zxl_go (x := (pc + 2, ls, .int (Int8.ofInt n).toInt32 :: st, f, m)) h rfl
theorem zx_sipush {n : Int} (h : zfe q.i pc = some (pc, .sipush n, len, a, b, c)) (hn : (Int16.ofInt n).toInt32 = I n) : zex tb d q pc ls st f m = zex tb d q (pc + 3) ls (.int (I n) :: st) f m := by
  rw [← hn]; exact zxl_go (x := (pc + 3, ls, .int (Int16.ofInt n).toInt32 :: st, f, m)) h rfl
theorem zx_lconst {n : Fin 2} {v : Int} (h : zfe q.i pc = some (pc, .lconst n, len, a, b, c)) (hn : Int64.ofNat (n : Nat) = J v) : zex tb d q pc ls st f m = zex tb d q (pc + 1) ls (.long (J v) :: st) f m := by
  rw [← hn]; exact zxl_go (x := (pc + 1, ls, .long (Int64.ofNat (n : Nat)) :: st, f, m)) h rfl
theorem zx_ldc2 {k : Nat} (h : zfe q.i pc = some (pc, .ldc2_w k, len, a, b, c)) {v : Int} (hn : Int64.ofNat a = J v) : zex tb d q pc ls st f m = zex tb d q (pc + 3) ls (.long (J v) :: st) f m := by
  rw [← hn]; exact zxl_go (x := (pc + 3, ls, .long (Int64.ofNat a) :: st, f, m)) h rfl
theorem J_nat (n : Nat) : Int64.ofNat n = J n := by
  unfold J
  rw [Int64.ofInt_eq_ofNat]
end ZX
theorem zrun_ex {tb : List zQ} {d M : Nat} {q : zQ} {vs ls : List Value} {f : zF} {m : zM} (h : tb[M]? = some q) (hl : zent vs q.n = ls) (hn : (zfl vs).length ≤ q.n) : zrun tb (d + 1) M vs f m = zex tb d q 0 ls [] f m := by
  rw [zrun, h]
  dsimp only
  rw [if_pos hn, hl]
  rfl
