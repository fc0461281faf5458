/-- what a parse answers -/
def PAC (t : Int → Int) (n : Int) (r p p2 : Int32) : Prop := ∀ Lt : Int → Int × Int, ∃ R, READ t n Lt R ∧ ANS R r p p2
