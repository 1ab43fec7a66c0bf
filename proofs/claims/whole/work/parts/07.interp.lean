/-! THE INTERPRETER: the bytecode over an abstract heap. A reference is an index; a cell is an array (kind, length, contents) or an object (class, fields). A local .null is one of which nothing is known. -/
def zup (f : zF) (k : Nat) (c : zC) : zF := fun j => if j = k then some c else f j
/-- how much room a stack takes -/
def zsz (st : List Value) : Nat := (st.map fun v => v.category).sum
def zclr : Value → Value
  | .long _ => .null
  | .double _ => .null
  | v => v
def zset : List Value → Nat → Value → List Value
  | [], _, _ => []
  | _ :: r, 0, v => v :: r
  | a :: r, 1, v => zclr a :: zset r 0 v
  | a :: r, n + 2, v => a :: zset r (n + 1) v
def zset2 (ls : List Value) (i : Nat) (v : Value) : List Value := (zset ls i v).set (i + 1) .null
def zib (j : Int32) (n : Nat) : Bool := decide (¬ j < 0) && decide (j.toNatClampNeg < n)
def zdf (c : Nat) : List Value := (List.range (zfn.getD c 0)).map (fun k => defaultValue (zfty c k))
/-- a value that a field of a type may be given -/
def zok : FieldType → Value → Bool
  | .int, .int _ => true
  | .boolean, .int x => decide (x = 0 ∨ x = 1)
  | .long, .long _ => true
  | .double, .double _ => true
  | .array _, .ref _ => true
  | .object _, .ref _ => true
  | _, _ => false
def zokr : Option FieldType → Option Value → Bool
  | none, none => true
  | some t, some v => zok t v
  | _, _ => false
def znx (pc len : Nat) (ls st : List Value) (f : zF) (m : zM) : Option zT := some (.inl (pc + len, ls, st, f, m))
def zjp (pc : Nat) (off : Int) (ls st : List Value) (f : zF) (m : zM) : Option zT := if 0 ≤ (pc : Int) + off then some (.inl (((pc : Int) + off).toNat, ls, st, f, m)) else none
def zfh : zH → Nat → Nat → Option (Nat × Nat)
  | [], _, _ => none
  | (a, b, e, t, k) :: r, pc, E => if a ≤ pc ∧ pc < b ∧ e = E then some (t, k) else zfh r pc E
def zinv (call : Nat → List Value → zF → zM → zR) (hx : zH) (pc len : Nat) (ls st : List Value) (f : zF) (m : zM) (a b : Nat) : Option zT :=
  if b ≤ st.length ∧ zsz (st.drop b) ≤ 8 then
    match call a (st.take b).reverse f m with
    | none => none
    | some (.inl v, f', m') => znx pc len ls (v.toList ++ st.drop b) f' m'
    | some (.inr E, f', m') => match zfh hx pc E with
      | some (t, k) => some (.inl (t, zset ls k .null, [], f', m'))
      | none => some (.inr (.inr E, f', m'))
  else none
/-- a constructor's call: it doesn't throw -/
def zinvI (call : Nat → List Value → zF → zM → zR) (pc len : Nat) (ls st : List Value) (f : zF) (m : zM) (a b : Nat) : Option zT :=
  if b ≤ st.length ∧ zsz (st.drop b) ≤ 8 then
    match call a (st.take b).reverse f m with
    | some (.inl v, f', m') => znx pc len ls (v.toList ++ st.drop b) f' m'
    | _ => none
  else none
/-- the receiver, below b - 1 arguments, is an object of the class c -/
def zrc (f : zF) (st : List Value) (b c : Nat) : Bool := match (st.take b).getLast? with
  | some (.ref p) => match f p with
    | some (.inr (d, _)) => d == c
    | _ => false
  | _ => false
def zi2 (pc : Nat) (ls st : List Value) (f : zF) (m : zM) (g : Int32 → Int32 → Int32) : Option zT := match st with
  | .int y :: .int x :: r => znx pc 1 ls (.int (g x y) :: r) f m
  | _ => none
def zl2 (pc : Nat) (ls st : List Value) (f : zF) (m : zM) (g : Int64 → Int64 → Int64) : Option zT := match st with
  | .long y :: .long x :: r => znx pc 1 ls (.long (g x y) :: r) f m
  | _ => none
def zls (pc : Nat) (ls st : List Value) (f : zF) (m : zM) (g : Int64 → Int32 → Int64) : Option zT := match st with
  | .int y :: .long x :: r => znx pc 1 ls (.long (g x y) :: r) f m
  | _ => none
def zc1 (c : Jvm.ClassFile.Cond) (x : Int32) : Bool := match c with
  | .eq => decide (x = 0)
  | .ne => decide (¬ x = 0)
  | .lt => decide (x < 0)
  | .ge => decide (0 ≤ x)
  | .gt => decide (0 < x)
  | .le => decide (x ≤ 0)
def zc2 (c : Jvm.ClassFile.Cond) (x y : Int32) : Bool := match c with
  | .eq => decide (x = y)
  | .ne => decide (¬ x = y)
  | .lt => decide (x < y)
  | .ge => decide (y ≤ x)
  | .gt => decide (y < x)
  | .le => decide (x ≤ y)
def zldi (pc len : Nat) (ls st : List Value) (f : zF) (m : zM) (i : Nat) : Option zT := match ls.getD i .null with
  | .int x => znx pc len ls (.int x :: st) f m
  | _ => none
def zldl (pc len : Nat) (ls st : List Value) (f : zF) (m : zM) (i : Nat) : Option zT := match ls.getD i .null with
  | .long x => znx pc len ls (.long x :: st) f m
  | _ => none
def zldd (pc len : Nat) (ls st : List Value) (f : zF) (m : zM) (i : Nat) : Option zT := match ls.getD i .null with
  | .double x => znx pc len ls (.double x :: st) f m
  | _ => none
def zlda (pc len : Nat) (ls st : List Value) (f : zF) (m : zM) (i : Nat) : Option zT := match ls.getD i .null with
  | .ref x => znx pc len ls (.ref x :: st) f m
  | _ => none
def zsti (pc len : Nat) (ls st : List Value) (f : zF) (m : zM) (i : Nat) : Option zT := match st with
  | .int x :: r => if i < ls.length then znx pc len (zset ls i (.int x)) r f m else none
  | _ => none
def zstl (pc len : Nat) (ls st : List Value) (f : zF) (m : zM) (i : Nat) : Option zT := match st with
  | .long x :: r => if i + 1 < ls.length then znx pc len (zset2 ls i (.long x)) r f m else none
  | _ => none
def zstd (pc len : Nat) (ls st : List Value) (f : zF) (m : zM) (i : Nat) : Option zT := match st with
  | .double x :: r => if i + 1 < ls.length then znx pc len (zset2 ls i (.double x)) r f m else none
  | _ => none
def zsta (pc len : Nat) (ls st : List Value) (f : zF) (m : zM) (i : Nat) : Option zT := match st with
  | .ref x :: r => if i < ls.length then znx pc len (zset ls i (.ref x)) r f m else none
  | _ => none
def zgf (pc : Nat) (ls st : List Value) (f : zF) (m : zM) (a b : Nat) : Option zT := match st with
  | .ref p :: r => match f p with
    | some (.inr (c, fs)) => if c = a ∧ b < fs.length then znx pc 3 ls (fs.getD b .null :: r) f m else none
    | _ => none
  | _ => none
def zpf (pc : Nat) (ls st : List Value) (f : zF) (m : zM) (a b : Nat) : Option zT := match st with
  | v :: .ref p :: r => match f p with
    | some (.inr (c, fs)) => if c = a ∧ b < fs.length ∧ zok (zfty a b) v = true then znx pc 3 ls r (zup f p (.inr (c, fs.set b v))) m else none
    | _ => none
  | _ => none
def zali (pc : Nat) (ls st : List Value) (f : zF) (m : zM) (t0 : Nat) : Option zT := match st with
  | .int j :: .ref p :: r => match f p with
    | some (.inl (t, (n, .inl g))) => if t = t0 ∧ zib j n = true then znx pc 1 ls (.int (g j.toNatClampNeg) :: r) f m else none
    | _ => none
  | _ => none
def zai (pc : Nat) (ls st : List Value) (f : zF) (m : zM) : Option zT := match st with
  | .int j :: .ref p :: r => match f p with
    | some (.inl (t, (n, .inl g))) => if (t = 0 ∨ t = 8) ∧ zib j n = true then znx pc 1 ls (.int (g j.toNatClampNeg) :: r) f m else none
    | _ => none
  | _ => none
def zall (pc : Nat) (ls st : List Value) (f : zF) (m : zM) : Option zT := match st with
  | .int j :: .ref p :: r => match f p with
    | some (.inl (t, (n, .inr (.inl g)))) => if t = 1 ∧ zib j n = true then znx pc 1 ls (.long (g j.toNatClampNeg) :: r) f m else none
    | _ => none
  | _ => none
def zald (pc : Nat) (ls st : List Value) (f : zF) (m : zM) : Option zT := match st with
  | .int j :: .ref p :: r => match f p with
    | some (.inl (t, (n, .inr (.inr (.inr (.inl g)))))) => if t = 4 ∧ zib j n = true then znx pc 1 ls (.double (g j.toNatClampNeg) :: r) f m else none
    | _ => none
  | _ => none
def zala (pc : Nat) (ls st : List Value) (f : zF) (m : zM) : Option zT := match st with
  | .int j :: .ref p :: r => match f p with
    | some (.inl (t, (n, .inr (.inr (.inr (.inr g)))))) => if (t = 5 ∨ t = 6 ∨ t = 7) ∧ zib j n = true then
        match g j.toNatClampNeg with
        | some q => znx pc 1 ls (.ref q :: r) f m
        | none => none
      else none
    | _ => none
  | _ => none
def zasi (pc : Nat) (ls st : List Value) (f : zF) (m : zM) (t0 : Nat) : Option zT := match st with
  | .int x :: .int j :: .ref p :: r => match f p with
    | some (.inl (t, (n, .inl g))) => if t = t0 ∧ zib j n = true then znx pc 1 ls r (zup f p (.inl (t, (n, .inl (upd g j.toNatClampNeg (vp_nar (zty t0) x)))))) m else none
    | _ => none
  | _ => none
def zasl (pc : Nat) (ls st : List Value) (f : zF) (m : zM) : Option zT := match st with
  | .long x :: .int j :: .ref p :: r => match f p with
    | some (.inl (t, (n, .inr (.inl g)))) => if t = 1 ∧ zib j n = true then znx pc 1 ls r (zup f p (.inl (t, (n, .inr (.inl (vp_updL g j.toNatClampNeg x)))))) m else none
    | _ => none
  | _ => none
def zasd (pc : Nat) (ls st : List Value) (f : zF) (m : zM) : Option zT := match st with
  | .double x :: .int j :: .ref p :: r => match f p with
    | some (.inl (t, (n, .inr (.inr (.inr (.inl g)))))) => if t = 4 ∧ zib j n = true then znx pc 1 ls r (zup f p (.inl (t, (n, .inr (.inr (.inr (.inl (vf_upd g j.toNatClampNeg x)))))))) m else none
    | _ => none
  | _ => none
def zasa (pc : Nat) (ls st : List Value) (f : zF) (m : zM) : Option zT := match st with
  | .ref v :: .int j :: .ref p :: r => match f p with
    | some (.inl (t, (n, .inr (.inr (.inr (.inr g)))))) => match f v with
      | some (.inr (c, _)) => if t = 5 ∧ c = 2 ∧ zib j n = true then znx pc 1 ls r (zup f p (.inl (t, (n, .inr (.inr (.inr (.inr (va_up g j.toNatClampNeg (some v)))))))) ) m else none
      | _ => none
    | _ => none
  | _ => none
def zal (pc : Nat) (ls st : List Value) (f : zF) (m : zM) : Option zT := match st with
  | .ref p :: r => match f p with
    | some (.inl (_, (n, _))) => znx pc 1 ls (.int (Int32.ofNat n) :: r) f m
    | _ => none
  | _ => none
/-- the contents of a new array of a kind -/
def zna : Nat → Option ((Nat → Int32) ⊕ (Nat → Int64) ⊕ (Nat → UInt32) ⊕ (Nat → UInt64) ⊕ (Nat → Option Nat))
  | 0 => some (.inl (fun _ => 0))
  | 1 => some (.inr (.inl (fun _ => 0)))
  | 2 => some (.inl (fun _ => 0))
  | 3 => some (.inl (fun _ => 0))
  | 4 => some (.inr (.inr (.inr (.inl (fun _ => 0)))))
  | _ => none
def ztag : ArrayType → Nat
  | .int => 0
  | .long => 1
  | .boolean => 2
  | .char => 3
  | .double => 4
  | _ => 9
def znew (pc : Nat) (ls st : List Value) (f : zF) (m : zM) (a : Nat) : Option zT := match m with
  | (some q, k, n) => if a < zfn.length then znx pc 3 ls (.ref q :: st) (zup f q (.inr (a, zdf a))) (some (q + 1), k + 1, n + zfn.getD a 0) else none
  | _ => none
def znwa (pc : Nat) (ls st : List Value) (f : zF) (m : zM) (t : Nat) : Option zT := match st, m with
  | .int x :: r, (some q, k, n) => match zna t with
    | some g => if ¬ x < 0 ∧ x.toNatClampNeg ≤ 10000 then znx pc 2 ls (.ref q :: r) (zup f q (.inl (t, (x.toNatClampNeg, g)))) (some (q + 1), k + 1, n + x.toNatClampNeg) else none
    | none => none
  | _, _ => none
def znqa (pc : Nat) (ls st : List Value) (f : zF) (m : zM) : Option zT := match st, m with
  | .int x :: r, (some q, k, n) => if ¬ x < 0 ∧ x.toNatClampNeg ≤ 10000 then znx pc 3 ls (.ref q :: r) (zup f q (.inl (5, (x.toNatClampNeg, .inr (.inr (.inr (.inr (fun _ => none)))))))) (some (q + 1), k + 1, n + x.toNatClampNeg) else none
  | _, _ => none
/-- new T[x][y]: the outer array at q, its rows behind it -/
def zmf (f : zF) (q N K t : Nat) (g : (Nat → Int32) ⊕ (Nat → Int64) ⊕ (Nat → UInt32) ⊕ (Nat → UInt64) ⊕ (Nat → Option Nat)) : zF := fun j =>
  if j = q then some (.inl (t + 6, (N, .inr (.inr (.inr (.inr (fun i => if i < N then some (q + 1 + i) else none)))))))
  else if q < j ∧ j ≤ q + N then some (.inl (t, (K, g))) else f j
def znma (pc : Nat) (ls st : List Value) (f : zF) (m : zM) (t : Nat) : Option zT := match st, m with
  | .int y :: .int x :: r, (some q, k, n) => match zna t with
    | some g => if t < 2 ∧ ¬ x < 0 ∧ ¬ y < 0 ∧ x.toNatClampNeg ≤ 10000 ∧ y.toNatClampNeg ≤ 10000 then
        znx pc 4 ls (.ref q :: r) (zmf f q x.toNatClampNeg y.toNatClampNeg t g) (some (q + (1 + x.toNatClampNeg)), k + (1 + x.toNatClampNeg), n + (x.toNatClampNeg + x.toNatClampNeg * y.toNatClampNeg)) else none
    | none => none
  | _, _ => none
def zif (pc : Nat) (ls st : List Value) (f : zF) (m : zM) (k : Jvm.ClassFile.Cond) (off : Int) : Option zT := match st with
  | .int x :: r => if 0 ≤ (pc : Int) + off then (if zc1 k x = true then some (.inl (((pc : Int) + off).toNat, ls, r, f, m)) else some (.inl (pc + 3, ls, r, f, m))) else none
  | _ => none
def zic (pc : Nat) (ls st : List Value) (f : zF) (m : zM) (k : Jvm.ClassFile.Cond) (off : Int) : Option zT := match st with
  | .int y :: .int x :: r => if 0 ≤ (pc : Int) + off then (if zc2 k x y = true then some (.inl (((pc : Int) + off).toNat, ls, r, f, m)) else some (.inl (pc + 3, ls, r, f, m))) else none
  | _ => none
def zsw (pc : Nat) (ls st : List Value) (f : zF) (m : zM) (dflt lo hi : Int) (offs : Array Int) : Option zT := match st with
  | .int x :: r => if x.toInt < lo ∨ hi < x.toInt then zjp pc dflt ls r f m else
      match offs.toList[(x.toInt - lo).toNat]? with
      | some o => zjp pc o ls r f m
      | none => none
  | _ => none
/-- one instruction -/
def zstp (call : Nat → List Value → zF → zM → zR) (rt : Option FieldType) (hx : zH) (i : zI) (ls st : List Value) (f : zF) (m : zM) : Option zT :=
  match i with
  | (pc, ins, len, a, b, c) => match ins with
    | .iconst n => znx pc 1 ls (.int (Int32.ofInt n) :: st) f m
    | .bipush n => znx pc 2 ls (.int (Int8.ofInt n).toInt32 :: st) f m
    | .sipush n => znx pc 3 ls (.int (Int16.ofInt n).toInt32 :: st) f m
    | .lconst n => znx pc 1 ls (.long (Int64.ofNat (n : Nat)) :: st) f m
    | .dconst n => if n = 0 then znx pc 1 ls (.double FP.dconst0 :: st) f m else none
    | .ldc2_w _ => znx pc 3 ls (.long (Int64.ofNat a) :: st) f m
    | .iload_n k => zldi pc 1 ls st f m k
    | .iload k => zldi pc 2 ls st f m k
    | .lload_n k => zldl pc 1 ls st f m k
    | .lload k => zldl pc 2 ls st f m k
    | .dload_n k => zldd pc 1 ls st f m k
    | .dload k => zldd pc 2 ls st f m k
    | .aload_n k => zlda pc 1 ls st f m k
    | .aload k => zlda pc 2 ls st f m k
    | .istore_n k => zsti pc 1 ls st f m k
    | .istore k => zsti pc 2 ls st f m k
    | .lstore_n k => zstl pc 1 ls st f m k
    | .lstore k => zstl pc 2 ls st f m k
    | .dstore_n k => zstd pc 1 ls st f m k
    | .dstore k => zstd pc 2 ls st f m k
    | .astore_n k => zsta pc 1 ls st f m k
    | .astore k => zsta pc 2 ls st f m k
    | .iinc k n => match ls.getD k .null with
      | .int x => znx pc 3 (zset ls k (.int (x + Int32.ofInt n))) st f m
      | _ => none
    | .iadd => zi2 pc ls st f m (fun x y => x + y)
    | .isub => zi2 pc ls st f m (fun x y => x - y)
    | .imul => zi2 pc ls st f m (fun x y => x * y)
    | .iand => zi2 pc ls st f m (fun x y => x &&& y)
    | .ior => zi2 pc ls st f m (fun x y => x ||| y)
    | .ixor => zi2 pc ls st f m (fun x y => x ^^^ y)
    | .ishl => zi2 pc ls st f m (fun x y => x <<< (y &&& 31))
    | .ishr => zi2 pc ls st f m (fun x y => x >>> (y &&& 31))
    | .iushr => zi2 pc ls st f m (fun x y => (x.toUInt32 >>> (y.toUInt32 &&& Int32.toUInt32 31)).toInt32)
    | .idiv => match st with
      | .int y :: .int x :: r => if y = 0 then none else znx pc 1 ls (.int (x / y) :: r) f m
      | _ => none
    | .irem => match st with
      | .int y :: .int x :: r => if y = 0 then none else znx pc 1 ls (.int (x - x / y * y) :: r) f m
      | _ => none
    | .ineg => match st with
      | .int x :: r => znx pc 1 ls (.int (-x) :: r) f m
      | _ => none
    | .ladd => zl2 pc ls st f m (fun x y => x + y)
    | .lsub => zl2 pc ls st f m (fun x y => x - y)
    | .lmul => zl2 pc ls st f m (fun x y => x * y)
    | .land => zl2 pc ls st f m (fun x y => x &&& y)
    | .lor => zl2 pc ls st f m (fun x y => x ||| y)
    | .lshl => zls pc ls st f m (fun x y => x <<< (y.toInt64 &&& 63))
    | .lshr => zls pc ls st f m (fun x y => x >>> (y.toInt64 &&& 63))
    | .lushr => zls pc ls st f m (fun x y => (x.toUInt64 >>> (y.toInt64.toUInt64 &&& Int64.toUInt64 63)).toInt64)
    | .lcmp => match st with
      | .long y :: .long x :: r => znx pc 1 ls (.int (lg_cmp x y) :: r) f m
      | _ => none
    | .i2l => match st with
      | .int x :: r => znx pc 1 ls (.long x.toInt64 :: r) f m
      | _ => none
    | .l2i => match st with
      | .long x :: r => znx pc 1 ls (.int x.toInt32 :: r) f m
      | _ => none
    | .i2c => match st with
      | .int x :: r => znx pc 1 ls (.int (x.toUInt32 % 65536).toInt32 :: r) f m
      | _ => none
    | .i2d => match st with
      | .int x :: r => znx pc 1 ls (.double (FP.i2d x) :: r) f m
      | _ => none
    | .ddiv => match st with
      | .double y :: .double x :: r => if FP.ddiv x y &&& 0x7fffffffffffffff ≤ 0x7ff0000000000000 then znx pc 1 ls (.double (FP.ddiv x y) :: r) f m else none
      | _ => none
    | .dcmp o => match st with
      | .double y :: .double x :: r => znx pc 1 ls (.int (Op.cmpValue (FP.dcmp x y) o) :: r) f m
      | _ => none
    | .dup => match st with
      | .int x :: r => znx pc 1 ls (.int x :: .int x :: r) f m
      | .ref x :: r => znx pc 1 ls (.ref x :: .ref x :: r) f m
      | _ => none
    | .pop => match st with
      | .int _ :: r => znx pc 1 ls r f m
      | .ref _ :: r => znx pc 1 ls r f m
      | _ => none
    | .dup2 => match st with
      | .int x :: .ref y :: r => znx pc 1 ls (.int x :: .ref y :: .int x :: .ref y :: r) f m
      | .long x :: r => znx pc 1 ls (.long x :: .long x :: r) f m
      | _ => none
    | .ifCond k off => zif pc ls st f m k off
    | .if_icmp k off => zic pc ls st f m k off
    | .goto off => zjp pc off ls st f m
    | .tableswitch dflt lo hi offs => zsw pc ls st f m dflt lo hi offs
    | .getfield _ => zgf pc ls st f m a b
    | .putfield _ => zpf pc ls st f m a b
    | .iaload => zai pc ls st f m
    | .laload => zall pc ls st f m
    | .daload => zald pc ls st f m
    | .baload => zali pc ls st f m 2
    | .caload => zali pc ls st f m 3
    | .aaload => zala pc ls st f m
    | .iastore => zasi pc ls st f m 0
    | .lastore => zasl pc ls st f m
    | .dastore => zasd pc ls st f m
    | .bastore => zasi pc ls st f m 2
    | .castore => zasi pc ls st f m 3
    | .aastore => zasa pc ls st f m
    | .arraylength => zal pc ls st f m
    | .newarray t => znwa pc ls st f m (ztag t)
    | .anewarray _ => znqa pc ls st f m
    | .multianewarray _ _ => znma pc ls st f m a
    | .new _ => if b = 0 then znew pc ls st f m a else
        match m with
        | (_, k, n) => if (zsz st ≤ 8) then some (.inr (.inr a, f, (none, k + 1, n + 6))) else none
    | .invokevirtual _ => if zrc f st b c = true then zinv call hx pc 3 ls st f m a b else none
    | .invokestatic _ => zinv call hx pc 3 ls st f m a b
    | .invokespecial _ => if b = 0 then
          (match st with
          | .ref _ :: r => if zsz r ≤ 8 then znx pc 3 ls r f m else none
          | _ => none)
        else match (st.take b).getLast? with
          | some (.ref _) => zinvI call pc 3 ls st f m a b
          | _ => none
    | .ireturn => match st with
      | [.int x] => if zokr rt (some (.int x)) = true then some (.inr (.inl (some (.int x)), f, m)) else none
      | _ => none
    | .lreturn => match st with
      | [.long x] => if zokr rt (some (.long x)) = true then some (.inr (.inl (some (.long x)), f, m)) else none
      | _ => none
    | .dreturn => match st with
      | [.double x] => if zokr rt (some (.double x)) = true then some (.inr (.inl (some (.double x)), f, m)) else none
      | _ => none
    | .areturn => match st with
      | [.ref x] => if zokr rt (some (.ref x)) = true then some (.inr (.inl (some (.ref x)), f, m)) else none
      | _ => none
    | .return_ => match st with
      | [] => if zokr rt none = true then some (.inr (.inl none, f, m)) else none
      | _ => none
    | _ => none
def zfl : List Value → List Value
  | [] => []
  | v :: r => if v.category = 2 then v :: .null :: zfl r else v :: zfl r
def zent (vs : List Value) (n : Nat) : List Value := zfl vs ++ List.replicate (n - (zfl vs).length) .null
def zfe (l : List zI) (pc : Nat) : Option zI := l.find? (fun i => i.1 == pc)
def zxf (call : Nat → List Value → zF → zM → zR) (q : zQ) : Nat → Nat → List Value → List Value → zF → zM → zR
  | 0, _, _, _, _, _ => none
  | n + 1, pc, ls, st, f, m => match zfe q.i pc with
    | none => none
    | some i => match zstp call q.r q.x i ls st f m with
      | none => none
      | some (.inr r) => some r
      | some (.inl (pc', ls', st', f', m')) => zxf call q n pc' ls' st' f' m'
noncomputable def zlim {α : Type} (g : Nat → Option α) : Option α := Classical.epsilon (fun r => (∃ n x, g n = some x ∧ r = some x) ∨ ((∀ n, g n = none) ∧ r = none))
theorem zlim_some {α : Type} {g : Nat → Option α} (hm : ∀ n x, g n = some x → g (n + 1) = some x) {n : Nat} {x : α} (h : g n = some x) : zlim g = some x := by
  have hmm : ∀ k n x, g n = some x → g (n + k) = some x := by
    intro k
    induction k with
    | zero => intro n x h; exact h
    | succ k ih => intro n x h; exact hm _ _ (ih n x h)
  have key := Classical.epsilon_spec (p := fun r => (∃ n x, g n = some x ∧ r = some x) ∨ ((∀ n, g n = none) ∧ r = none)) ⟨some x, Or.inl ⟨n, x, h, rfl⟩⟩
  rcases key with ⟨n', x', h', hr⟩ | ⟨h', -⟩
  · have h1 := hmm n' n x h
    have h2 := hmm n n' x' h'
    rw [Nat.add_comm] at h2
    have : x = x' := Option.some.inj (h1.symm.trans h2)
    subst this
    exact hr
  · rw [h' n] at h; cases h
theorem zlim_of {α : Type} {g : Nat → Option α} {x : α} (h : zlim g = some x) : ∃ n, g n = some x := by
  have key := Classical.epsilon_spec (p := fun r => (∃ n x, g n = some x ∧ r = some x) ∨ ((∀ n, g n = none) ∧ r = none)) (by
    by_cases hc : ∃ n x, g n = some x
    · obtain ⟨n, x, h⟩ := hc
      exact ⟨some x, Or.inl ⟨n, x, h, rfl⟩⟩
    · refine ⟨none, Or.inr ⟨fun n => ?_, rfl⟩⟩
      cases hg : g n with
      | none => rfl
      | some x => exact absurd ⟨n, x, hg⟩ hc)
  rcases key with ⟨n, x', h', hr⟩ | ⟨-, hr⟩
  · have : zlim g = some x' := hr
    rw [this] at h; cases h
    exact ⟨n, h'⟩
  · have : zlim g = none := hr
    rw [this] at h; cases h
theorem zlim_none {α : Type} {g : Nat → Option α} (h : ∀ n, g n = none) : zlim g = none := by
  cases hg : zlim g with
  | none => rfl
  | some x => obtain ⟨n, h'⟩ := zlim_of hg; rw [h n] at h'; cases h'
noncomputable def zrun (tb : List zQ) : Nat → Nat → List Value → zF → zM → zR
  | 0, _, _, _, _ => none
  | d + 1, M, vs, f, m => match tb[M]? with
    | none => none
    | some q => if (zfl vs).length ≤ q.n then zlim (fun n => zxf (zrun tb d) q n 0 (zent vs q.n) [] f m) else none
noncomputable def zex (tb : List zQ) (d : Nat) (q : zQ) (pc : Nat) (ls st : List Value) (f : zF) (m : zM) : zR := zlim (fun n => zxf (zrun tb d) q n pc ls st f m)
theorem zxf_mono {call : Nat → List Value → zF → zM → zR} {q : zQ} : ∀ (n pc : Nat) (ls st : List Value) (f : zF) (m : zM) (x : zO × zF × zM), zxf call q n pc ls st f m = some x → zxf call q (n + 1) pc ls st f m = some x := by
  intro n
  induction n with
  | zero => intro pc ls st f m x h; cases h
  | succ n ih =>
    intro pc ls st f m x h
    rw [zxf] at h ⊢
    cases hi : zfe q.i pc with
    | none => rw [hi] at h; cases h
    | some i =>
      rw [hi] at h
      dsimp only at h ⊢
      cases hs : zstp call q.r q.x i ls st f m with
      | none => rw [hs] at h; cases h
      | some r =>
        rw [hs] at h
        match r, h with
        | .inr r, h => exact h
        | .inl (pc', ls', st', f', m'), h => exact ih _ _ _ _ _ _ h
theorem zex_eq (tb : List zQ) (d : Nat) (q : zQ) (pc : Nat) (ls st : List Value) (f : zF) (m : zM) : zex tb d q pc ls st f m = match zfe q.i pc with
    | none => none
    | some i => match zstp (zrun tb d) q.r q.x i ls st f m with
      | none => none
      | some (.inr r) => some r
      | some (.inl (pc', ls', st', f', m')) => zex tb d q pc' ls' st' f' m' := by
  cases hi : zfe q.i pc with
  | none =>
    refine zlim_none fun n => ?_
    cases n with
    | zero => rfl
    | succ n => rw [zxf, hi]
  | some i =>
    dsimp only
    cases hs : zstp (zrun tb d) q.r q.x i ls st f m with
    | none =>
      refine zlim_none fun n => ?_
      cases n with
      | zero => rfl
      | succ n => rw [zxf, hi]; dsimp only; rw [hs]
    | some r =>
      match r, hs with
      | .inr r, hs =>
        refine zlim_some (fun n x => zxf_mono n _ _ _ _ _ x) (n := 1) ?_
        rw [zxf, hi]; dsimp only; rw [hs]
      | .inl (pc', ls', st', f', m'), hs =>
        dsimp only
        have e : ∀ n, zxf (zrun tb d) q (n + 1) pc ls st f m = zxf (zrun tb d) q n pc' ls' st' f' m' := by
          intro n
          rw [zxf, hi]; dsimp only; rw [hs]
        cases hx : zex tb d q pc' ls' st' f' m' with
        | some x =>
          obtain ⟨n, hn⟩ := zlim_of hx
          exact zlim_some (fun n x => zxf_mono n _ _ _ _ _ x) (n := n + 1) ((e n).trans hn)
        | none =>
          refine zlim_none fun n => ?_
          cases n with
          | zero => rfl
          | succ n =>
            rw [e n]
            cases hz : zxf (zrun tb d) q n pc' ls' st' f' m' with
            | none => rfl
            | some x =>
              have := zlim_some (g := fun n => zxf (zrun tb d) q n pc' ls' st' f' m') (fun n x => zxf_mono n _ _ _ _ _ x) hz
              rw [show zex tb d q pc' ls' st' f' m' = some x from this] at hx
              cases hx
