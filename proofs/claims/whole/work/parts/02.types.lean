/-! THE INTERPRETER, its types: a reference is an index; a cell is an array (kind, length, contents) or an object (class, fields) -/
abbrev zC : Type := (Nat × vp_A) ⊕ (Nat × List Value)
abbrev zF : Type := Nat → Option zC
abbrev zM : Type := Option Nat × Nat × Nat
abbrev zI : Type := Nat × Instr × Nat × Nat × Nat × Nat
abbrev zO : Type := Option Value ⊕ Nat
abbrev zR : Type := Option (zO × zF × zM)
abbrev zT : Type := (Nat × List Value × List Value × zF × zM) ⊕ (zO × zF × zM)
abbrev zH : Type := List (Nat × Nat × Nat × Nat × Nat)
/-- the kinds of arrays: 0 int, 1 long, 2 boolean, 3 char, 4 double, 5 of Patterns, 6 of int rows, 7 of long rows; 8 the script, an int array that is only read -/
def zty : Nat → FieldType
  | 0 => .int
  | 1 => .long
  | 2 => .boolean
  | 3 => .char
  | 4 => .double
  | 5 => .object "PatternFinder$Pattern"
  | 6 => .array .int
  | 7 => .array .long
  | _ => .int
def zfts : List (Nat → FieldType) := [tyX0, tyX1, tyX2, tyX3, tyX4, tyX5, tyX6, tyX7, tyX9, tyX10]
def zfty (c k : Nat) : FieldType := (zfts.getD c (fun _ => .int)) k
def zfn : List Nat := [4, 5, 4, 2, 4, 5, 11, 3, 10, 25]
/-- what is told of a method: its name, its bytes, the number of its locals, what it returns, its table (as in the words), its handlers, its instructions -/
abbrev zQ : Type := MethodName × ByteArray × Nat × Option FieldType × List (Nat × Nat × Nat × Nat) × zH × List zI
abbrev zQ.y (q : zQ) : MethodName := q.1
abbrev zQ.c (q : zQ) : ByteArray := q.2.1
abbrev zQ.n (q : zQ) : Nat := q.2.2.1
abbrev zQ.r (q : zQ) : Option FieldType := q.2.2.2.1
abbrev zQ.h (q : zQ) : List (Nat × Nat × Nat × Nat) := q.2.2.2.2.1
abbrev zQ.x (q : zQ) : zH := q.2.2.2.2.2.1
abbrev zQ.i (q : zQ) : List zI := q.2.2.2.2.2.2
