/-! THE TABLE IS THE PROGRAM: what a step of the machine needs of each instruction stands among the tables' words; checked by the kernel -/
def zGood (ws : List Cond) : Prop := ∀ w ∈ ws, w ∈ lw_tbl ∧ goodWord w = true
theorem zgood_r (ws : List Cond) (ps : List Nat) (hp : ws = ps.filterMap (fun i => lw_tbl[i]?)) (h : ws.all goodWord = true) : zGood ws := by
  intro w hw
  have h1 := List.all_eq_true.mp h w hw
  rw [hp] at hw
  obtain ⟨i, -, hi⟩ := List.mem_filterMap.mp hw
  exact ⟨List.mem_of_getElem? hi, h1⟩
def zexn : Nat → String
  | 0 => "java/lang/IllegalArgumentException"
  | 1 => "java/lang/IllegalStateException"
  | _ => "java/lang/IndexOutOfBoundsException"
def znam : List String := ["java/lang/RuntimeException", "java/lang/Exception"]
def zats : List (Nat × Nat) := [(62, 0), (77, 1), (94, 2)]
def zNests : List (String × Nat × MethodName) := [("PatternFinder", 9, ⟨"PatternFinder$Examples", "<init>", "()V"⟩), ("PatternFinder$Examples", 21, ⟨"PatternFinder$Pieces", "<init>", "()V"⟩), ("PatternFinder", 22, ⟨"PatternFinder$Search", "<init>", "()V"⟩), ("PatternFinder$Search", 11, ⟨"PatternFinder$Store", "<init>", "()V"⟩), ("PatternFinder$Store", 44, ⟨"PatternFinder$Cuts", "<init>", "()V"⟩), ("PatternFinder", 29, ⟨"PatternFinder$Trial", "<init>", "()V"⟩), ("PatternFinder", 36, ⟨"PatternFinder$Pattern", "<init>", "()V"⟩), ("PatternFinder", 43, ⟨"PatternFinder$Script", "<init>", "()V"⟩)]
def zcode (q : zQ) : Cond := match q.h with
  | [] => .code q.y q.c q.n q.r
  | h :: t => .codeWith q.y q.c q.n q.r (h :: t)
def zbad : Cond := .static ⟨"", "", ""⟩
def zneed (tb : List zQ) (own : String) (i : zI) : List Cond :=
  match i with
  | (_, ins, _, a, b, c) => match ins with
    | .getfield k => (match vwCl[a]? with
      | some r => [.fieldLink own k (r.2.1 b).1 (r.2.1 b).2.1 (r.2.1 b).2.2.1]
      | none => [zbad])
    | .putfield k => (match vwCl[a]? with
      | some r => [.fieldLink own k (r.2.1 b).1 (r.2.1 b).2.1 (r.2.1 b).2.2.1]
      | none => [zbad])
    | .invokevirtual k => (match tb[a]? with
      | some q => [.methodLink own k q.y, .instanceMethod q.y, .selects q.y.cls q.y q.y, .initialized q.y.cls, zcode q]
      | none => [zbad])
    | .invokestatic k => (match tb[a]? with
      | some q => [.methodLink own k q.y, .static q.y, .initialized q.y.cls, zcode q]
      | none => [zbad])
    | .invokespecial k => if b = 0 then [.methodLink own k objectInit, .instanceMethod objectInit, .code objectInit ⟨#[0xb1]⟩ 1 none] else
      (match tb[a]? with
      | some q => [.instanceMethod q.y, .initialized q.y.cls, zcode q] ++ (if c = 0 then [.methodLink own k q.y] else [])
      | none => [zbad])
    | .new k => if b = 0 then
        (match vwCl[a]? with
        | some r => [.classLink own k r.1, .instantiable r.1 r.2.2, .initialized r.1]
        | none => [zbad])
      else [.classLink own k (zexn a), .initialized (zexn a)]
    | .newarray t => [.arrayClass (newarray.typeOf t)]
    | .anewarray k => [.classLink own k "PatternFinder$Pattern"]
    | .multianewarray k _ => [.classLink own k ("[" ++ (FieldType.array (zty a)).toString), .arrayClass (zty a)]
    | .ldc2_w k => [.constantLong own k (Int64.ofNat a)]
    | _ => []
def znar (y : MethodName) : Option Nat := (parseMethodDescriptor y.desc).map (fun d => d.parameters.length)
def zmh (y : MethodName) : Bool := decide (y.cls ≠ "java/lang/invoke/MethodHandle") && decide (y.cls ≠ "java/lang/invoke/VarHandle")
def zstat (tb : List zQ) (q : zQ) (i : zI) : Bool :=
  match i with
  | (pc, ins, _, a, b, c) => match ins with
    | .getfield _ => decide (a < 10) && decide (b < zfn.getD a 0)
    | .putfield _ => decide (a < 10) && decide (b < zfn.getD a 0) && (match vwCl[a]? with
      | some r => if c = 0 then decide ((r.2.1 b).2.2.2 = false) else decide ((r.2.1 b).2.2.2 = true) && decide (q.y.name = "<init>") && decide ((r.2.1 b).1 = q.y.cls)
      | none => false)
    | .invokevirtual _ => (match tb[a]? with
      | some r => decide (1 ≤ b) && decide (znar r.y = some (b - 1)) && decide ((vwCl[c]?).map (fun x => x.1) = some r.y.cls) && decide (r.h = []) && decide (r.n ≤ 21) && zmh r.y
      | none => false)
    | .invokestatic _ => (match tb[a]? with
      | some r => decide (znar r.y = some b) && decide (r.n ≤ 21) && zmh r.y
      | none => false)
    | .invokespecial k => decide (b = 0) || (match tb[a]? with
      | some r => decide (1 ≤ b) && decide (znar r.y = some (b - 1)) && decide (r.y.name = "<init>") && decide (r.h = []) && decide (r.r = none) && decide (r.n ≤ 21) && zmh r.y && (decide (c = 0) || decide ((q.y.cls, k, r.y) ∈ zNests))
      | none => false)
    | .new _ => if b = 0 then decide (a < 10) else decide (q.y.cls = "PatternFinder") && decide (q.h = []) && decide (a < 3) && decide ((c, a) ∈ zats) && decide ((b - 1) ∈ zStrs.map (fun x => x.1)) &&
        decide (decode q.c (pc + 3) = .ok (.dup, 1)) && decide (decode q.c (pc + 4) = .ok (.ldc (b - 1), 2)) && decide (decode q.c (pc + 6) = .ok (.invokespecial c, 3)) && decide (decode q.c (pc + 9) = .ok (.athrow, 1))
    | .multianewarray _ d => decide (d = 2) && decide (a < 2)
    | _ => true
/-- how long an instruction is (0: told by its row alone) -/
def zlen : Instr → Nat
  | .bipush _ => 2
  | .sipush _ => 3
  | .ldc2_w _ => 3
  | .iload _ => 2
  | .lload _ => 2
  | .dload _ => 2
  | .aload _ => 2
  | .istore _ => 2
  | .lstore _ => 2
  | .dstore _ => 2
  | .astore _ => 2
  | .iinc _ _ => 3
  | .ifCond _ _ => 3
  | .if_icmp _ _ => 3
  | .goto _ => 3
  | .getfield _ => 3
  | .putfield _ => 3
  | .newarray _ => 2
  | .anewarray _ => 3
  | .multianewarray _ _ => 4
  | .new _ => 3
  | .invokevirtual _ => 3
  | .invokestatic _ => 3
  | .invokespecial _ => 3
  | .tableswitch _ _ _ _ => 0
  | _ => 1
/-- the handlers are the table's rows: a row's class is the exception that it is told for, and its code begins with a store of it -/
def zhok (own : String) (bytes : ByteArray) (wl : List Cond) (n : Nat) : List (Nat × Nat × Nat × Nat) → zH → Bool
  | [], [] => true
  | (s, e, h, ct) :: r, (s', e', E, t, k) :: r' => decide (s = s') && decide (e = e') && decide (ct ≠ 0) && decide (E < 3) && decide (Cond.classLink own ct (zexn E) ∈ wl) && decide (k < n) &&
      ((match k with
        | 0 => decide (decode bytes h = .ok (.astore_n 0, 1))
        | 1 => decide (decode bytes h = .ok (.astore_n 1, 1))
        | 2 => decide (decode bytes h = .ok (.astore_n 2, 1))
        | 3 => decide (decode bytes h = .ok (.astore_n 3, 1))
        | _ => false) && decide (t = h + 1) || decide (decode bytes h = .ok (.astore k, 2)) && decide (t = h + 2)) && zhok own bytes wl n r r'
  | _, _ => false
def zchk (tb : List zQ) (wl : List Cond) (q : zQ) : Bool :=
  (q.i.all fun i => decide (decode q.c i.1 = .ok (i.2.1, i.2.2.1)) && (decide (zlen i.2.1 = 0) || decide (i.2.2.1 = zlen i.2.1)) && (zneed tb q.y.cls i).all (fun w => decide (w ∈ wl)) && zstat tb q i) && plainName q.y.cls && zhok q.y.cls q.c wl q.n q.h q.x
def zOK (q : zQ) : Prop := ∃ wl, zGood wl ∧ zchk zTb wl q = true
