theorem fp_ne0 {x : Int32} {o : Option Ordering} {op : CmpOp} (e : x = Op.cmpValue o op) (c : ¬ x.toInt = 0) : ¬ o = some .eq := by
  intro h
  subst h
  exact c (by rw [e]; cases op <;> decide +kernel)
