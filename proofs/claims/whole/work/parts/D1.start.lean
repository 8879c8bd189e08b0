/-! THE START: both constructors -/
def wS1 : pW := match cM 3000 12 105 [.ref 0] (pnw w00) with
  | some r => r.2
  | none => w00
def wS : pW := match cM 3000 12 162 [.ref 140] (pnw wS1) with
  | some r => r.2
  | none => w00
theorem wS1_ok : (match cM 3000 12 105 [.ref 0] (pnw w00) with | some (none, _) => true | _ => false) = true := by decide +kernel
theorem wS1_n : Nat.beq wS1.1 140 = true := by decide +kernel
theorem wS_ok : (match cM 3000 12 162 [.ref 140] (pnw wS1) with | some (none, _) => true | _ => false) = true := by decide +kernel
theorem wS_n : Nat.beq wS.1 176 = true := by decide +kernel
