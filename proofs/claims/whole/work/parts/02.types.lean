/-! THE PURE MACHINE, its types: a world is (how many cells are made, the ints, the longs, the references), by cell number (handle) and place. A reference is the cell's number; 'retAddr k' stands for what lies outside the world: 0 the script, k + 1 the String constant number k. -/
abbrev pS : Type := (FieldType × Nat) ⊕ Nat
abbrev pI : Type := Instr × Nat × Nat × Nat × Nat × Value
abbrev pT : Type := List (Nat × pI)
abbrev pW : Type := Nat × (Nat → Nat → Int32) × (Nat → Nat → Int64) × (Nat → Nat → Option Nat)
abbrev pF : Type := Nat × List (Option Value) × List Value × pW
abbrev pR : Type := Option (pF ⊕ (Option Value × pW))
abbrev pC : Type := Nat → List Value → pW → Option (Option Value × pW)
abbrev pX : Type := Option (Nat × (Nat → Int32))
/-- a method: name, bytes, locals, result, parameters, kind (0 static, 1 constructor, 2 virtual), its class's number, the places of its words, its rows -/
abbrev pM : Type := MethodName × ByteArray × Nat × Option FieldType × Nat × Nat × Nat × List Nat × pT
def pfind {α : Type} (k : Nat) : List (Nat × α) → Option α
  | [] => none
  | (a, x) :: r => bif Nat.beq k a then some x else pfind k r
def pk : FieldType → Nat
  | .int => 0
  | .byte => 0
  | .boolean => 0
  | .long => 1
  | .object _ => 2
  | .array _ => 2
  | _ => 3
def u2 {α : Type} (g : Nat → Nat → α) (h k : Nat) (v : α) : Nat → Nat → α := fun a b => if a = h then (if b = k then v else g a b) else g a b
def u1 {α : Type} (g : Nat → Nat → α) (h : Nat) (v : α) : Nat → Nat → α := fun a b => if a = h then v else g a b
/-- the locals -/
def lg : List (Option Value) → Nat → Option Value
  | [], _ => none
  | x :: _, 0 => x
  | _ :: r, n + 1 => lg r n
def lst : List (Option Value) → Nat → Option Value → List (Option Value)
  | [], _, _ => []
  | _ :: r, 0, v => v :: r
  | x :: r, n + 1, v => x :: lst r n v
def pcat (o : Option Value) : Bool := match o with
  | some (.long _) => true
  | some (.double _) => true
  | _ => false
def lclr (L : List (Option Value)) (i : Nat) : List (Option Value) := match i with
  | 0 => L
  | j + 1 => bif pcat (lg L j) then lst L j none else L
def ls1 (L : List (Option Value)) (i : Nat) (v : Value) : List (Option Value) := lst (lclr L i) i (some v)
def ls2 (L : List (Option Value)) (i : Nat) (v : Value) : List (Option Value) := lst (lst (lclr L i) i (some v)) (i + 1) none
def lent0 : List Value → List (Option Value)
  | [] => []
  | v :: r => bif pcat (some v) then some v :: none :: lent0 r else some v :: lent0 r
def lpad : Nat → List (Option Value) → List (Option Value)
  | 0, l => l
  | n + 1, [] => none :: lpad n []
  | n + 1, x :: r => x :: lpad n r
def lent (args : List Value) (n : Nat) : List (Option Value) := lpad n (lent0 args)
