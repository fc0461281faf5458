/-- whether a reference is there -/
def on1 : Option Nat → Nat
  | none => 0
  | some _ => 1
