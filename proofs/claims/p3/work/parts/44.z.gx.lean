/-! ===== what the class's reader answers ===== -/
/-- the piece may be set -/
def CBS (P : PL) (b : Nat) : Bool := decide ((oI P 2 b = 3 ∨ oI P 2 b = 4) ∧ oI P 5 b = 0)
/-- a reading's outcome, as the grammar says it -/
def RSG (P : PL) (r : Option Nat) (a e p : Int) (G : GR → Prop) : Prop := match r with
  | none => G (.inr (e, p))
  | some b => ∃ K, G (.inl (a, CBS P b, K))
/-- the same, where what is set and its code don't matter yet -/
def LG (T N Pl : Int → Int) (nt : Nat) (l : Int) (m : Bool) (d a0 : Int) (P : PL) (r : Option Nat) (a e p : Int) : Prop := ∀ Lt : Int → Int × Int, RSG P r a e p (Gr T N Pl Lt nt l m [] d a0)
